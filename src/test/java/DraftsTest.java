/** Promises 1 to 6: a new object, begin, put, remove, commit, abort. */
public final class DraftsTest {
    private static final int NONE = PageGarden.NONE;

    private static void newObject() {
        PageGarden x = new PageGarden();
        Check.whole("new", x, 31, 1, 0, 0, 1, 0, 0, 0, 0, 0, 0, 0, 0, 0, 0);
        Check.root("new", x, 0, 1, 0, 1, 1);
        Check.root("new", x, 1, 0, NONE, 0, 0);
        Check.bed("new", x, 0, 1, 1, 0, NONE, 0, 0);
        for (int bed = 1; bed < 32; bed++) {
            Check.bed("new", x, bed, 0, NONE, NONE, NONE, 0, 0);
        }
        for (int reader = 0; reader < 4; reader++) {
            Check.reader("new", x, reader, NONE, NONE, NONE);
        }
        Check.badState("new: undo()", x, () -> x.undo());
        Check.due("new: clearCommands()", x.clearCommands(), 0);
        PageGarden y = new PageGarden();
        y.begin();
        Check.whole("another object has no part in it", x, 31, 1, 0, 0, 1, 0, 0, 0, 0, 0);
    }

    private static void begin() {
        PageGarden x = new PageGarden();
        Check.due("begin()", x.begin(), 1);
        Check.whole("begun", x, 31, 1, 0, 0, 1, 0, 0, 0, 1, 0, 0);
        Check.badState("begin() with a draft", x, () -> x.begin());
        Check.due("undo() of begin()", x.undo(), 0);
        Check.due("no draft behind undo()", x.whole(8), 0);
        Check.due("a commit of nothing", Check.committed(x), 0);
        Check.due("begin() behind a commit of nothing", x.begin(), 1);
        x.put(1, 1);
        x.commit(3);
        Check.due("begin() behind a commit", x.begin(), 2);
        x.put(1, 2);
        x.commit(2);
        Check.due("begin() behind a lost draft", x.begin(), 2);
    }

    private static void putIntoLeaves() {
        PageGarden x = new PageGarden();
        x.begin();
        Check.due("put into no leaf", x.put(50, -999), NONE);
        Check.bed("the copied directory", x, 1, 1, 1, 1, NONE, 0, 1);
        Check.bed("the first leaf", x, 2, 1, 0, 1, NONE, 0, 1);
        Check.bed("the old directory is left, but used", x, 0, 1, 1, 0, NONE, 0, 0);
        Check.due("beds that are left", x.whole(10), 1);
        Check.due("put of a key that is there", x.put(50, 999), -999);
        Check.due("put before the first leaf's first key", x.put(0, 7), NONE);
        Check.due("the greatest key", x.put(99, 8), NONE);
        Check.due("the fourth entry", x.put(20, 9), NONE);
        Check.bed("a full leaf", x, 2, 1, 0, 4, NONE, 0, 1);
        Check.due("the fifth entry", x.put(60, 10), NONE);
        Check.bed("a split leaf keeps 3", x, 2, 1, 0, 3, NONE, 0, 1);
        Check.bed("a split leaf gives 2", x, 3, 1, 0, 2, NONE, 0, 1);
        Check.bed("the directory has 2 leaves", x, 1, 1, 1, 2, NONE, 0, 1);
        Check.due("a key between the leaves", x.put(59, 11), NONE);
        Check.bed("it goes to the leaf whose first key is less", x, 2, 1, 0, 4, NONE, 0, 1);
        Check.due("the first key of the second leaf", x.put(60, 12), 10);
        Check.due("commit", x.commit(3), 1);
        int[][] entries = {{0, 7, 2, 0}, {20, 9, 2, 1}, {50, 999, 2, 2}, {59, 11, 2, 3}, {60, 12, 3, 0}, {99, 8, 3, 1}};
        for (int rank = 0; rank < entries.length; rank++) {
            Check.entry("committed", x, rank, entries[rank]);
        }
        Check.due("entries", x.whole(5), 6);
    }

    private static void splitOfTheFirstOfTwoLeaves() {
        PageGarden x = new PageGarden();
        Check.due("commit", Check.committed(x, 10, 20, 30, 40, 50), 1);
        x.begin();
        x.put(5, 5);
        Check.due("the first leaf is copied for a new first key", x.whole(9), 2);
        x.put(25, 25);
        Check.due("the split digs a third bed", x.whole(9), 3);
        Check.due("its leaf is left, as is the directory", x.whole(10), 2);
        x.commit(3);
        Check.entry("the new leaf stands behind its first half", x, 3, 25, 25, 6, 0);
        Check.entry("the new leaf stands behind its first half", x, 4, 30, 30, 6, 1);
        Check.entry("the old second leaf is the third", x, 5, 40, 40, 3, 0);
        Check.due("leaves", x.whole(6), 3);
    }

    private static void putOfTheSameValueIsAChange() {
        PageGarden x = new PageGarden();
        Check.committed(x, 4);
        x.begin();
        Check.due("the same value", x.put(4, 4), 4);
        Check.due("two beds are dug", x.whole(9), 2);
        Check.due("two beds are freed", x.commit(3), 2);
    }

    private static void putThatIsRefused() {
        PageGarden x = new PageGarden();
        Check.badState("put without a draft", x, () -> x.put(0, 0));
        Check.badArgument("key -1 without a draft", x, () -> x.put(-1, 0));
        Check.badArgument("value 1000 without a draft", x, () -> x.put(0, 1000));
        x.begin();
        Check.badArgument("key -1", x, () -> x.put(-1, 0));
        Check.badArgument("key 100", x, () -> x.put(100, 0));
        Check.badArgument("value -1000", x, () -> x.put(0, -1000));
        Check.badArgument("value 1000", x, () -> x.put(0, 1000));
        Check.badArgument("the least key", x, () -> x.put(Integer.MIN_VALUE, 0));
        Check.badArgument("the greatest value", x, () -> x.put(0, Integer.MAX_VALUE));
        Check.due("no bed was dug for them", x.whole(9), 0);
    }

    private static void tooManyLeaves() {
        PageGarden x = new PageGarden();
        x.begin();
        for (int key = 0; key < 19; key++) {
            x.put(key, key);
        }
        Check.due("six leaves, the last one full: bed of the directory", x.bed(1, 2), 6);
        Check.due("entries of the first leaf", x.bed(2, 2), 3);
        Check.badState("a fifth entry of the sixth leaf", x, () -> x.put(99, 1));
        Check.due("put of a key that is there can still be done", x.put(18, 1), 18);
        Check.due("remove from a full leaf", x.remove(16), 16);
        Check.due("put into a leaf that is not full", x.put(99, 1), NONE);
    }

    // With a reader on the first root no freed bed can be dug; 15 commits of one key leave one wild bed.
    static PageGarden nearlyFull() {
        PageGarden x = new PageGarden();
        x.open();
        for (int value = 0; value < 15; value++) {
            x.begin();
            x.put(5, value);
            x.commit(3);
        }
        return x;
    }

    private static void tooFewBeds() {
        PageGarden x = nearlyFull();
        Check.whole("nearly full", x, 1, 2, 29, 0, 1, 1, 1, 1, 0, 0, 0, 15);
        x.begin();
        Check.badState("put needs two beds", x, () -> x.put(5, 99));
        Check.badState("put needs two beds", x, () -> x.put(6, 99));
        Check.due("nothing was dug for them", x.whole(9), 0);
        Check.due("remove that drops the leaf needs one bed", x.remove(5), 14);
        Check.due("no bed is left to dig", x.nextBed(), NONE);
        Check.badState("put of a first leaf needs a bed", x, () -> x.put(5, 99));
        Check.due("abort()", x.abort(), 1);
        Check.due("close(0)", x.close(0), 27);
        x.begin();
        Check.due("put behind close", x.put(5, 99), 14);
        Check.bed("the oldest freed bed is dug first", x, 0, 1, 1, 1, NONE, 0, 1);
        Check.bed("of those of the next age the lowest one is dug", x, 1, 1, 0, 1, NONE, 0, 1);
        Check.due("then the other one of that age", x.nextBed(), 2);
        Check.due("commit", x.commit(3), 2);
        Check.committed(x, 5);
        Check.due("a bed that was freed anew is young again", x.bed(0, 3), 18);
        Check.due("an older one is dug before lower ones", x.nextBed(), 4);
        Check.committed(x, 5);
        Check.due("also if these can be dug too", x.bed(0, 4), 1);
        Check.due("an older one is dug before lower ones", x.nextBed(), 6);
        Check.due("the wild bed is still there", x.bed(31, 0), 0);
    }

    private static void removeNeedsBeds() {
        PageGarden x = new PageGarden();
        x.open();
        Check.committed(x, 1, 2, 3);
        for (int value = 0; value < 14; value++) {
            x.begin();
            x.put(2, value);
            x.commit(3);
        }
        x.begin();
        Check.due("one wild bed", x.whole(0), 1);
        Check.badState("remove that copies a leaf needs two beds", x, () -> x.remove(1));
        x.close(0);
        Check.due("remove behind close", x.remove(1), 1);
    }

    private static void remove() {
        PageGarden x = new PageGarden();
        Check.badState("remove without a draft", x, () -> x.remove(0));
        Check.badArgument("key 100 without a draft", x, () -> x.remove(100));
        Check.committed(x, 10, 20, 30, 40, 50);
        x.begin();
        Check.badArgument("key -1", x, () -> x.remove(-1));
        Check.badArgument("key 100", x, () -> x.remove(100));
        Check.badState("a key that is not there", x, () -> x.remove(11));
        Check.due("nothing was dug", x.whole(9), 0);
        Check.due("a first key", x.remove(10), 10);
        Check.badState("a key that is there no more", x, () -> x.remove(10));
        Check.due("directory and leaf are copied", x.whole(9), 2);
        Check.due("of the second leaf", x.remove(40), 40);
        Check.due("the second leaf is copied", x.whole(9), 3);
        Check.due("beds left", x.whole(10), 3);
        Check.due("its last entry", x.remove(50), 50);
        Check.due("the bed of its copy is wild at once", x.bed(6, 0), 0);
        Check.due("new beds", x.whole(9), 2);
        Check.due("the other beds stay left", x.whole(10), 3);
        Check.due("the rest", x.remove(30) + x.remove(20), 50);
        Check.due("the draft is empty", x.bed(4, 2), 0);
        Check.due("a key of the current root that the draft lacks", x.get(20), 20);
        Check.due("commit", x.commit(3), 3);
        Check.whole("emptied", x, 27, 1, 4, 1, 2, 0, 0);
    }

    private static void removeDropsAnOldLeafWithoutACopy() {
        PageGarden x = new PageGarden();
        Check.committed(x, 10, 20, 30, 40, 50);
        x.begin();
        x.remove(50);
        x.remove(40);
        x.commit(3);
        x.begin();
        x.remove(10);
        x.remove(20);
        x.commit(3);
        x.begin();
        int before = x.whole(9);
        Check.due("remove of a last entry", x.remove(30), 30);
        Check.due("digs for the directory alone", x.whole(9) - before, 1);
        Check.due("the leaf and the directory are left", x.whole(10), 2);
        Check.due("and freed", x.commit(3), 2);
    }

    private static void wholeCommit() {
        PageGarden x = new PageGarden();
        x.begin();
        Check.due("commit(3) without a change", x.commit(3), 0);
        Check.whole("nothing is counted", x, 31, 1, 0, 0, 1, 0, 0, 0, 0, 0, 0, 0, 0);
        Check.root("nothing is written", x, 1, 0, NONE, 0, 0);
        Check.due("commit(3)", Check.committed(x, 1), 1);
        Check.root("the old root", x, 0, 1, 0, 1, 0);
        Check.root("the new root", x, 1, 2, 1, 1, 1);
        Check.bed("the old directory is freed", x, 0, 2, 1, 0, 2, 0, 0);
        Check.bed("the new one is new no more", x, 1, 1, 1, 1, NONE, 0, 0);
        Check.whole("committed", x, 29, 2, 1, 0, 1, 1, 1, 0, 0, 0, 0, 1, 0, 1);
        Check.due("commit(3)", Check.committed(x, 2), 2);
        Check.root("root 0 is written in turn", x, 0, 3, 3, 1, 1);
        Check.root("root 1 is asleep", x, 1, 2, 1, 1, 0);
        Check.bed("bed 0 can be dug now", x, 0, 2, 1, 0, 2, 1, 0);
        Check.bed("bed 1 can not", x, 1, 2, 1, 1, 3, 0, 0);
        Check.bed("a freed leaf tells its entries", x, 2, 2, 0, 1, 3, 0, 0);
    }

    private static PageGarden withTwoRoots() {
        PageGarden x = new PageGarden();
        Check.committed(x, 1);
        Check.committed(x, 2);
        x.begin();
        x.put(3, 3);
        return x;
    }

    private static void lostDrafts() {
        PageGarden x = withTwoRoots();
        Check.bed("a freed bed is dug", x, 0, 1, 1, 1, NONE, 0, 1);
        Check.due("commit(0)", x.commit(0), NONE);
        Check.root("no step: the asleep root stays", x, 1, 2, 1, 1, 0);
        Check.root("no step: the current root stays", x, 0, 3, 3, 1, 1);
        Check.bed("a bed that was freed before it was dug is wild", x, 0, 0, NONE, NONE, NONE, 0, 0);
        Check.whole("lost", x, 28, 2, 2, 0, 2, 2, 1, 0, 0, 0, 0, 2, 1, 3);

        PageGarden y = withTwoRoots();
        Check.due("commit(1)", y.commit(1), NONE);
        Check.root("one step: the asleep root is torn", y, 1, 2, 1, 0, 0);
        Check.root("one step: the current root stays", y, 0, 3, 3, 1, 1);
        Check.whole("a torn root needs no bed", y, 28, 2, 2, 2, 3, 2, 1, 0, 0, 0, 0, 2, 1, 3);

        PageGarden z = withTwoRoots();
        Check.due("commit(2)", z.commit(2), NONE);
        Check.root("two steps: the torn root has the draft's directory", z, 1, 4, 0, 0, 0);
        Check.root("two steps: a torn root is not chosen", z, 0, 3, 3, 1, 1);
        Check.bed("its bed is wild", z, 0, 0, NONE, NONE, NONE, 0, 0);
        Check.due("the lost key", z.get(3), NONE);
        Check.due("whole(12)", z.whole(12), 1);
        Check.due("the next commit", Check.committed(z, 3), 2);
        Check.root("heals it", z, 1, 4, 1, 1, 1);
        Check.due("the key", z.get(3), 3);
    }

    private static void aLeafInBedZero() {
        PageGarden x = withTwoRoots();
        x.commit(1);
        x.begin();
        x.put(3, 3);
        x.put(4, 4);
        Check.bed("freed beds that nobody needs are dug first", x, 1, 1, 1, 1, NONE, 0, 1);
        Check.bed("freed beds that nobody needs are dug first", x, 2, 1, 0, 4, NONE, 0, 1);
        x.put(5, 5);
        Check.bed("the new leaf comes into the lowest wild bed", x, 0, 1, 0, 2, NONE, 0, 1);
        Check.due("drafted(4)", x.drafted(4), 4);
        x.commit(3);
        Check.entry("it is the second leaf", x, 3, 4, 4, 0, 0);
        Check.entry("it is the second leaf", x, 4, 5, 5, 0, 1);
    }

    private static void commitThatIsRefused() {
        PageGarden x = new PageGarden();
        Check.badState("commit without a draft", x, () -> x.commit(3));
        Check.badArgument("steps 4 without a draft", x, () -> x.commit(4));
        x.begin();
        Check.badArgument("steps -1", x, () -> x.commit(-1));
        Check.badArgument("steps 4", x, () -> x.commit(4));
        for (int steps = 0; steps < 3; steps++) {
            Check.due("a draft without a change, steps " + steps, x.commit(steps), 0);
            Check.due("is not counted as lost", x.whole(12), 0);
            Check.root("writes nothing", x, 1, 0, NONE, 0, 0);
            x.begin();
        }
        x.put(1, 1);
        x.remove(1);
        Check.due("a change that was taken back is a change", x.commit(3), 1);
        Check.due("whole(11)", x.whole(11), 1);
    }

    private static void abort() {
        PageGarden x = new PageGarden();
        Check.badState("abort without a draft", x, () -> x.abort());
        x.begin();
        Check.due("abort of no change", x.abort(), 0);
        x.begin();
        x.put(1, 1);
        Check.due("abort of two new beds", x.abort(), 2);
        Check.whole("aborted", x, 31, 1, 0, 0, 1, 0, 0, 0, 0, 0, 0, 0, 0, 0);
        Check.due("get", x.get(1), NONE);
        Check.due("undo() of abort", x.undo(), 3);
        Check.due("the draft is back", x.drafted(1), 1);
        x.remove(1);
        Check.due("a bed that was dropped is not counted", x.abort(), 1);
        PageGarden y = withTwoRoots();
        Check.due("bed 0 and wild beds were dug", y.nextBed(), 6);
        Check.due("abort where a freed bed was dug", y.abort(), 2);
        Check.bed("it is wild", y, 0, 0, NONE, NONE, NONE, 0, 0);
        Check.due("nothing is lost by a commit", y.whole(12), 0);
        Check.due("it is the lowest wild bed now", y.nextBed(), 0);
    }

    public static void main(String[] args) {
        newObject();
        begin();
        putIntoLeaves();
        splitOfTheFirstOfTwoLeaves();
        putOfTheSameValueIsAChange();
        putThatIsRefused();
        tooManyLeaves();
        tooFewBeds();
        removeNeedsBeds();
        remove();
        removeDropsAnOldLeafWithoutACopy();
        wholeCommit();
        lostDrafts();
        aLeafInBedZero();
        commitThatIsRefused();
        abort();
        Check.end("DraftsTest");
    }
}
