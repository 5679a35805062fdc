/** Promises 17, 18 and 19: nextBed, bedsFor, reason. (20 and 21 stand in ReadersTest.) */
public final class WhatIfTest {
    private static final int NONE = PageGarden.NONE;

    private static void question(String where, PageGarden x, int key, int beds, int reason) {
        long before = x.digest();
        Check.due(where + ": bedsFor(" + key + ")", x.bedsFor(key), beds);
        Check.due(where + ": reason(" + key + ")", x.reason(key), reason);
        Check.due(where + ": the digest stays", x.digest(), before);
    }

    private static void nextBed() {
        PageGarden x = new PageGarden();
        Check.due("new", x.nextBed(), 1);
        x.begin();
        x.put(1, 1);
        Check.due("two were dug", x.nextBed(), 3);
        x.remove(1);
        Check.due("one of them is wild again", x.nextBed(), 2);
        x.commit(3);
        Check.due("a bed that is freed with the new count is still needed", x.nextBed(), 2);
        Check.committed(x, 1);
        Check.due("bed 0 can be dug", x.nextBed(), 0);
        x.open();
        Check.committed(x, 2);
        Check.committed(x, 3);
        Check.due("no more than the reader lets", x.whole(3), 0);
        Check.due("the lowest wild bed", x.nextBed(), 6);
        x.close(0);
        Check.due("of the freed ones with the least count", x.nextBed(), 2);
    }

    private static void bedsFor() {
        PageGarden x = new PageGarden();
        Check.badArgument("bedsFor(-1) without a draft", x, () -> x.bedsFor(-1));
        Check.badArgument("bedsFor(100) without a draft", x, () -> x.bedsFor(100));
        Check.badState("bedsFor(0) without a draft", x, () -> x.bedsFor(0));
        Check.badArgument("reason(-1) without a draft", x, () -> x.reason(-1));
        Check.badArgument("reason(100) without a draft", x, () -> x.reason(100));
        Check.badState("reason(0) without a draft", x, () -> x.reason(0));
        x.begin();
        Check.badArgument("bedsFor(100)", x, () -> x.bedsFor(100));
        Check.badArgument("reason(-1)", x, () -> x.reason(-1));
        question("no leaf", x, 0, 2, 0);
        x.put(50, 1);
        question("a new leaf", x, 0, 0, 0);
        x.remove(50);
        question("no leaf in an own directory", x, 99, 1, 0);
        x.abort();
        Check.committed(x, 10, 20, 30, 40);
        x.begin();
        question("a key of a full leaf", x, 40, 2, 0);
        question("a split", x, 41, 3, 0);
        question("a split below the first key", x, 0, 3, 0);
        x.put(40, 0);
        question("a key of a new full leaf", x, 40, 0, 0);
        question("a split of a new leaf", x, 99, 1, 0);
        x.put(50, 0);
        x.commit(3);
        x.begin();
        x.put(99, 0);
        question("an old leaf of an own directory", x, 10, 1, 0);
        question("an old leaf that is not full", x, 11, 1, 0);
        x.put(15, 0);
        x.commit(3);
        x.begin();
        x.put(99, 1);
        question("a split of an old leaf of an own directory", x, 11, 2, 0);
    }

    private static void sevenLeaves() {
        PageGarden x = new PageGarden();
        x.begin();
        for (int key = 0; key < 19; key++) {
            x.put(key, key);
        }
        question("a full sixth leaf", x, 99, NONE, 1);
        question("its last key", x, 18, 0, 0);
        question("a leaf of three", x, 0, 0, 0);
        x.remove(0);
        question("still", x, 99, NONE, 1);
        x.commit(3);
        x.begin();
        question("still, in a new draft", x, 99, NONE, 1);
        x.remove(1);
        x.remove(2);
        Check.due("leaves of the draft", x.bed(x.nextBed() - 1, 0), 1);
        question("five leaves", x, 99, 2, 0);
    }

    private static PageGarden nearlyFull(int commits) {
        PageGarden x = new PageGarden();
        x.open();
        for (int value = 0; value < commits; value++) {
            x.begin();
            x.put(5, value);
            x.commit(3);
        }
        x.begin();
        return x;
    }

    private static void fewBeds() {
        PageGarden x = nearlyFull(15);
        question("one wild bed", x, 5, 2, 2);
        question("one wild bed", x, 6, 2, 2);
        Check.due("nextBed()", x.nextBed(), 31);
        x.remove(5);
        question("none", x, 5, 1, 2);
        Check.due("nextBed()", x.nextBed(), NONE);
        x.close(0);
        question("behind close", x, 5, 1, 0);
        Check.due("nextBed()", x.nextBed(), 0);
        PageGarden y = nearlyFull(14);
        question("three wild beds", y, 6, 2, 0);
        y.put(6, 6);
        y.put(7, 7);
        y.put(8, 8);
        question("a split with one wild bed", y, 9, 1, 0);
        y.put(9, 9);
        question("a second split without one", y, 4, 0, 0);
        y.put(4, 4);
        question("a second split without one", y, 3, 1, 2);
    }

    private static void bothReasons() {
        PageGarden x = new PageGarden();
        x.open();
        x.begin();
        for (int key = 0; key < 19; key++) {
            x.put(key, key);
        }
        x.commit(3);
        while (x.nextBed() != NONE) {
            x.begin();
            for (int key = 0; key < 19 && x.nextBed() != NONE; key++) {
                x.put(key, 0);
            }
            x.commit(3);
        }
        x.begin();
        question("too many leaves stands before too few beds", x, 99, NONE, 1);
        question("too few beds", x, 18, 2, 2);
    }

    public static void main(String[] args) {
        nextBed();
        bedsFor();
        sevenLeaves();
        fewBeds();
        bothReasons();
        Check.end("WhatIfTest");
    }
}
