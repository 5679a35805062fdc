/** The edges of beds: how many there are, which one is dug, and changes for which they do not suffice. */
public final class BedsEdgesTest {
    private static final int NONE = PageGarden.NONE;

    private static void commitValue(PageGarden x, int value) {
        x.begin();
        x.put(5, value);
        x.commit(3);
    }

    private static void allBeds(String where, PageGarden x) {
        Check.due(where + ": beds", x.whole(0) + x.whole(1) + x.whole(2), 32);
    }

    // "There are 32 beds, numbered from 0": the last two of them are dug as any, and none behind them.
    private static void theLastBeds() {
        PageGarden x = Gardens.withBeds(3, 5);
        allBeds("three are wild", x);
        Check.answer("the last but two", 29, () -> x.nextBed());
        x.begin();
        x.remove(5);
        Check.answer("the last but one", 30, () -> x.nextBed());
        x.put(5, 1);
        Check.answer("the last one", 31, () -> x.nextBed());
        for (int key = 6; key <= 9; key++) {
            x.put(key, key);
        }
        Check.bed("the last bed", x, 31, 1, 0, 2, NONE, 0, 1);
        Check.answer("none behind it", NONE, () -> x.nextBed());
        Check.due("wild", x.whole(0), 0);
        allBeds("none is wild", x);
        x.put(10, 0);
        x.put(11, 0);
        Check.badState("a further leaf", x, () -> x.put(12, 0));
        x.commit(3);
        Check.same("leaves", Check.entries(x), "5@30/0 6@30/1 7@30/2 8@31/0 9@31/1 10@31/2 11@31/3");
    }

    /** Freed are 0 by count 2, 1 and 2 by 3, 3 and 4 by 4, 5 and 6 by 5, 7 and 8 by 6; readers at 1 and 4. */
    private static PageGarden ages() {
        PageGarden x = new PageGarden();
        x.open();
        for (int value = 0; value < 5; value++) {
            if (value == 3) {
                x.open();
            }
            commitValue(x, value);
        }
        return x;
    }

    private static void canBeDug(String where, PageGarden x, int needed, int beds) {
        Check.due(where + ": needed count", x.whole(4), needed);
        int can = 0;
        for (int bed = 0; bed < 32; bed++) {
            int count = x.bed(bed, 3);
            boolean due = count != NONE && count <= needed;
            Check.due(where + ": bed " + bed + " of count " + count, x.bed(bed, 4), due ? 1 : 0);
            can += x.bed(bed, 4);
        }
        Check.due(where + ": beds that can be dug", can, beds);
        Check.due(where + ": whole(3)", x.whole(3), beds);
    }

    // "A freed bed can be dug if its freeing count is not greater than the needed count."
    private static void oneCountLessAndMore() {
        PageGarden x = ages();
        int[] counts = {2, 3, 3, 4, 4, 5, 5, 6, 6, NONE, NONE, NONE};
        for (int bed = 0; bed < counts.length; bed++) {
            Check.due("freeing count of bed " + bed, x.bed(bed, 3), counts[bed]);
        }
        canBeDug("the reader's count is one less than the least", x, 1, 0);
        Check.answer("needed without the first", 4, () -> x.neededWithout(0));
        Check.answer("close(0)", 5, () -> x.close(0));
        canBeDug("counts 3, 4 and 5 round the needed one", x, 4, 5);
        Check.answer("needed without the second", 5, () -> x.neededWithout(1));
        Check.answer("close(1)", 2, () -> x.close(1));
        canBeDug("the lesser root's count", x, 5, 7);
        x.begin();
        x.put(5, 0);
        x.commit(1);
        canBeDug("the lesser root is torn: beds 0 and 1 were dug and are wild", x, 6, 7);
        Check.bed("bed 8", x, 8, 2, 0, 1, 6, 1, 0);
        PageGarden y = new PageGarden();
        commitValue(y, 0);
        canBeDug("count 2, needed 1", y, 1, 0);
        commitValue(y, 0);
        canBeDug("counts 2 and 3, needed 2", y, 2, 1);
    }

    // "the one with the least freeing count, of several the lowest one; if there is none, the lowest wild bed"
    private static void order() {
        PageGarden x = ages();
        Check.answer("none can be dug: the lowest wild one", 11, () -> x.nextBed());
        x.close(0);
        x.begin();
        int[] next = {0, 2, 2, 2, 2, 3, 3, 3, 4, 4, 4, 11, 11, 11};
        for (int at = 0; at < next.length; at++) {
            Check.due("next bed before put " + at, x.nextBed(), next[at]);
            x.put(5 + at, at);
        }
        Check.due("the second wild one", x.nextBed(), 12);
        Check.answer("close(1) in a draft", 2, () -> x.close(1));
        Check.due("freed ones stand before wild ones", x.nextBed(), 5);
        x.put(19, 0);
        x.put(20, 0);
        x.put(21, 0);
        Check.due("and the last one of that age", x.nextBed(), 6);
        Check.answer("commit", 2, () -> x.commit(3));
        Check.same("the beds of the leaves", Check.entries(x), "5@1/0 6@1/1 7@1/2 8@2/0 9@2/1 10@2/2 11@3/0 12@3/1 "
                + "13@3/2 14@4/0 15@4/1 16@4/2 17@11/0 18@11/1 19@11/2 20@5/0 21@5/1");
        Check.due("age stands before place: 6 by 5, 7 and 8 by 6", x.nextBed(), 6);
        commitValue(x, 1);
        Check.due("8 by 6, 9 and 10 by 7, 0 and 1 by 8", x.nextBed(), 8);
        commitValue(x, 1);
        Check.due("10 by 7 stands before 0 and 1 by 8", x.nextBed(), 10);
        Check.due("0 can be dug too", x.bed(0, 4), 1);
        x.begin();
        x.put(5, 1);
        Check.bed("the directory came into 10", x, 10, 1, 1, 6, NONE, 0, 1);
        Check.bed("the leaf came into 0", x, 0, 1, 0, 3, NONE, 0, 1);
    }

    // A wild bed that is lower than a freed one waits all the same.
    private static void wildBedsWait() {
        PageGarden x = new PageGarden();
        commitValue(x, 1);
        commitValue(x, 2);
        x.begin();
        x.put(5, 3);
        x.commit(1);
        Check.due("bed 0 is wild", x.bed(0, 0), 0);
        Check.due("bed 1 is freed", x.bed(1, 4), 1);
        Check.answer("bed 1 is dug first", 1, () -> x.nextBed());
        x.begin();
        x.put(5, 3);
        Check.answer("bed 0 is the lowest wild one behind them", 0, () -> x.nextBed());
    }

    /** Tries the put of a key: it needs so many beds, and they suffice or not. */
    private static void putNeeds(String where, PageGarden x, int key, int needs, int has) {
        Check.due(where + ": beds", Check.beds(x), has);
        Check.answer(where + ": bedsFor", needs, () -> x.bedsFor(key));
        Check.answer(where + ": reason", needs <= has ? 0 : 2, () -> x.reason(key));
        if (needs <= has) {
            x.put(key, 0);
            Check.due(where + ": beds behind it", Check.beds(x), has - needs);
            Check.answer(where + ": drafted", 0, () -> x.drafted(key));
        } else {
            Check.badState(where, x, () -> x.put(key, 0));
        }
    }

    private static PageGarden drafting(PageGarden x, int... keys) {
        x.begin();
        for (int key : keys) {
            x.put(key, 0);
        }
        return x;
    }

    private static int[] upTo(int count) {
        int[] keys = new int[count];
        for (int at = 0; at < count; at++) {
            keys[at] = at + 1;
        }
        return keys;
    }

    // A directory, the copy of a leaf and a new leaf; leaves 1 2 3 4, or 1 2 3 | 4 5 6 7
    private static void putNeedsThree() {
        putNeeds("three of one", drafting(Gardens.withBeds(1, upTo(4))), 5, 3, 1);
        putNeeds("three of two", drafting(Gardens.withBeds(2, upTo(7))), 8, 3, 2);
        putNeeds("three of three", drafting(Gardens.withBeds(3, upTo(4))), 5, 3, 3);
        putNeeds("three of four", drafting(Gardens.withBeds(4, upTo(7))), 8, 3, 4);
        putNeeds("three of none", drafting(Gardens.withBeds(0, upTo(7))), 8, 3, 0);
    }

    // A directory and the copy of a leaf; or, with the directory dug, the copy of a leaf and a new leaf
    private static void putNeedsTwo() {
        putNeeds("two of none", drafting(Gardens.withBeds(0, upTo(5))), 6, 2, 0);
        putNeeds("two of one", drafting(Gardens.withBeds(1, upTo(3))), 4, 2, 1);
        putNeeds("two of one, same key", drafting(Gardens.withBeds(1, upTo(4))), 4, 2, 1);
        putNeeds("two of two", drafting(Gardens.withBeds(2, upTo(5))), 6, 2, 2);
        putNeeds("two of two, same key", drafting(Gardens.withBeds(2, upTo(5))), 5, 2, 2);
        putNeeds("two of three", drafting(Gardens.withBeds(3, upTo(3))), 4, 2, 3);
        putNeeds("a split of none", drafting(Gardens.withBeds(2, upTo(7)), 1), 8, 2, 0);
        putNeeds("a split of one", drafting(Gardens.withBeds(3, upTo(10)), 1), 11, 2, 1);
        putNeeds("a split of two", drafting(Gardens.withBeds(4, upTo(7)), 1), 8, 2, 2);
        putNeeds("a split of three", drafting(Gardens.withBeds(5, upTo(10)), 1), 11, 2, 3);
    }

    // The copy of a leaf; or a new leaf behind a leaf that is new
    private static void putNeedsOne() {
        putNeeds("a copy of none", drafting(Gardens.withBeds(2, upTo(5)), 1), 5, 1, 0);
        putNeeds("a copy of one", drafting(Gardens.withBeds(3, upTo(8)), 1), 4, 1, 1);
        putNeeds("a copy of two", drafting(Gardens.withBeds(4, upTo(5)), 1), 5, 1, 2);
        putNeeds("a new leaf of none", drafting(Gardens.withBeds(2, upTo(7)), 4), 8, 1, 0);
        putNeeds("a new leaf of one", drafting(Gardens.withBeds(3, upTo(4)), 1), 5, 1, 1);
        putNeeds("a new leaf of two", drafting(Gardens.withBeds(4, upTo(7)), 4), 8, 1, 2);
    }

    private static void putNeedsNone() {
        putNeeds("none of none, same key", drafting(Gardens.withBeds(2, upTo(5)), 1), 1, 0, 0);
        putNeeds("none of none, a fourth entry", drafting(Gardens.withBeds(2, upTo(5)), 1), 0, 0, 0);
        putNeeds("none of one", drafting(Gardens.withBeds(3, upTo(3)), 1), 4, 0, 1);
    }

    /** The current root's directory is empty, a reader keeps all that was freed, and so many beds are left. */
    private static PageGarden emptied(int beds) {
        PageGarden x = new PageGarden();
        x.open();
        if (beds % 2 == 1) {
            commitValue(x, 0);
            x.begin();
            x.remove(5);
            x.commit(3);
        }
        while (Check.beds(x) > beds + 1) {
            commitValue(x, 0);
        }
        x.begin();
        x.remove(5);
        x.commit(3);
        Check.due("leaves", x.whole(6), 0);
        x.begin();
        return x;
    }

    // A directory and a first leaf; or, with the directory dug, a first leaf
    private static void firstLeaf() {
        putNeeds("a first leaf: two of none", emptied(0), 50, 2, 0);
        putNeeds("a first leaf: two of one", emptied(1), 50, 2, 1);
        putNeeds("a first leaf: two of two", emptied(2), 50, 2, 2);
        putNeeds("a first leaf: two of three", emptied(3), 50, 2, 3);
        for (int beds = 1; beds <= 5; beds += 2) {
            PageGarden x = drafting(Gardens.withBeds(beds, 5));
            x.remove(5);
            putNeeds("a first leaf: one of " + (beds - 1), x, 50, 1, beds - 1);
        }
        PageGarden x = emptied(2);
        x.put(50, 0);
        x.remove(50);
        putNeeds("a first leaf: one of the one that was left", x, 60, 1, 1);
    }

    private static void removeNeeds(String where, PageGarden x, int key, int needs, int has) {
        Check.due(where + ": beds", Check.beds(x), has);
        if (needs <= has) {
            x.remove(key);
            Check.due(where + ": beds behind it", Check.beds(x), has - needs);
            Check.answer(where + ": drafted", NONE, () -> x.drafted(key));
        } else {
            Check.badState(where, x, () -> x.remove(key));
        }
    }

    /** Leaves 1 2 3 | 4, and so many beds. */
    private static PageGarden lastLeafOfOne(int beds) {
        PageGarden x = new PageGarden();
        x.open();
        Check.committed(x, 1, 2, 3, 4, 5);
        x.begin();
        x.remove(5);
        x.commit(3);
        while (Check.beds(x) > beds) {
            x.begin();
            x.put(1, 0);
            x.commit(3);
        }
        return x;
    }

    private static void removes() {
        removeNeeds("two of none", drafting(Gardens.withBeds(0, upTo(5))), 5, 2, 0);
        removeNeeds("two of one", drafting(Gardens.withBeds(1, upTo(3))), 3, 2, 1);
        removeNeeds("two of two", drafting(Gardens.withBeds(2, upTo(5))), 5, 2, 2);
        removeNeeds("two of three", drafting(Gardens.withBeds(3, upTo(3))), 3, 2, 3);
        removeNeeds("a copy of none", drafting(Gardens.withBeds(2, upTo(5)), 1), 5, 1, 0);
        removeNeeds("a copy of one", drafting(Gardens.withBeds(3, upTo(8)), 1), 4, 1, 1);
        removeNeeds("a copy of two", drafting(Gardens.withBeds(4, upTo(5)), 1), 5, 1, 2);
        removeNeeds("in place", drafting(Gardens.withBeds(2, upTo(5)), 1), 2, 0, 0);
        removeNeeds("a leaf that is dropped: one of none", drafting(lastLeafOfOne(0)), 4, 1, 0);
        removeNeeds("a leaf that is dropped: one of one", drafting(Gardens.withBeds(1, 5)), 5, 1, 1);
        removeNeeds("a leaf that is dropped: one of two", drafting(lastLeafOfOne(2)), 4, 1, 2);
        removeNeeds("a leaf that is dropped: none of none", drafting(lastLeafOfOne(2), 1), 4, 0, 0);
        PageGarden x = drafting(Gardens.withBeds(3, 5), 5);
        removeNeeds("a new leaf that is dropped gives its bed back", x, 5, -1, 1);
    }

    // Of the beds that suffice one or all may be freed ones.
    private static void freedBedsSuffice() {
        PageGarden x = new PageGarden();
        x.open();
        Check.committed(x, 1, 2, 3, 4);
        x.open();
        while (x.whole(0) > 1) {
            x.begin();
            x.put(1, 0);
            x.commit(3);
        }
        x.begin();
        putNeeds("a wild one alone", x, 1, 2, 1);
        Check.answer("close(0)", 1, () -> x.close(0));
        putNeeds("a split: three of a freed one and a wild one", x, 5, 3, 2);
        putNeeds("a freed one and a wild one", x, 1, 2, 2);
        Check.bed("the freed one is dug for the directory", x, 0, 1, 1, 1, NONE, 0, 1);
        Check.bed("the wild one is dug for the leaf", x, 31, 1, 0, 4, NONE, 0, 1);
        putNeeds("a new leaf of none", x, 5, 1, 0);
        Check.due("a reader's beds become free", x.close(1) > 0 ? 1 : 0, 1);
        putNeeds("a new leaf of freed ones", x, 5, 1, Check.beds(x));
    }

    // "all beds that are new in it become wild (also those that were freed before they were dug)"
    private static void dropped(int steps) {
        PageGarden x = new PageGarden();
        commitValue(x, 1);
        commitValue(x, 2);
        x.begin();
        for (int key = 5; key <= 9; key++) {
            x.put(key, 3);
        }
        String where = "dropped by " + steps;
        Check.whole(where, x, 25, 5, 2, 0);
        Check.bed(where, x, 0, 1, 1, 2, NONE, 0, 1);
        Check.bed(where, x, 5, 1, 0, 3, NONE, 0, 1);
        Check.bed(where, x, 6, 1, 0, 2, NONE, 0, 1);
        Check.answer(where, steps < 0 ? 3 : NONE, () -> steps < 0 ? x.abort() : x.commit(steps));
        int can = steps > 0 ? 2 : 0;
        Check.whole(where, x, 28, 2, 2, can, steps > 0 ? 3 : 2, 1, 1, 0, 0, 0, 0, 2, steps < 0 ? 0 : 1, 2, 0);
        for (int bed : new int[] {0, 5, 6}) {
            Check.bed(where, x, bed, 0, NONE, NONE, NONE, 0, 0);
        }
        Check.bed(where + ": a bed of the old root was not touched", x, 3, 1, 1, 1, NONE, 0, 0);
        Check.answer(where, 2, () -> x.get(5));
        Check.answer(where, NONE, () -> x.get(6));
        Check.answer(where, steps > 0 ? 1 : 0, () -> x.nextBed());
    }

    // "one that is new in this draft becomes wild at once; others are freed when the draft is committed"
    private static void leftBeds() {
        PageGarden x = new PageGarden();
        Check.committed(x, 1, 2, 3, 4, 5);
        x.begin();
        x.remove(4);
        Check.bed("a replaced leaf is used until the commit", x, 3, 1, 0, 2, NONE, 0, 0);
        Check.bed("so is the directory", x, 1, 1, 1, 2, NONE, 0, 0);
        Check.due("left", x.whole(10), 2);
        x.remove(5);
        Check.bed("a new leaf that is dropped is wild at once", x, 5, 0, NONE, NONE, NONE, 0, 0);
        Check.due("it is not among those that are left", x.whole(10), 2);
        Check.answer("it is the next to be dug", 5, () -> x.nextBed());
        Check.answer("commit", 2, () -> x.commit(3));
        Check.bed("freed with the new count", x, 3, 2, 0, 2, 3, 0, 0);
        Check.bed("freed with the new count", x, 1, 2, 1, 2, 3, 0, 0);
        Check.bed("untouched", x, 2, 1, 0, 3, NONE, 0, 0);
    }

    public static void main(String[] args) {
        theLastBeds();
        oneCountLessAndMore();
        order();
        wildBedsWait();
        putNeedsThree();
        putNeedsTwo();
        putNeedsOne();
        putNeedsNone();
        firstLeaf();
        removes();
        freedBedsSuffice();
        for (int steps = -1; steps < 3; steps++) {
            dropped(steps);
        }
        leftBeds();
        Check.end("BedsEdgesTest");
    }
}
