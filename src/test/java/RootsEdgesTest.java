/** The edges of roots and readers: promises 5, 7, 8, 13, 14, 20 and 21, and the terms they stand on. */
public final class RootsEdgesTest {
    private static final int NONE = PageGarden.NONE;

    private static PageGarden withCommits(int commits) {
        PageGarden x = new PageGarden();
        for (int value = 1; value <= commits; value++) {
            x.begin();
            x.put(5, value);
            x.commit(3);
        }
        return x;
    }

    private static int commitValue(PageGarden x, int value, int steps) {
        x.begin();
        x.put(5, value);
        return x.commit(steps);
    }

    // "root 0 is whole, with the count 1 and an empty directory in bed 0, which is used; root 1 is torn, with
    // the count 0 and no bed"
    private static void atFirst() {
        PageGarden x = new PageGarden();
        Check.root("at first", x, 0, 1, 0, 1, 1);
        Check.root("at first", x, 1, 0, NONE, 0, 0);
        Check.bed("at first", x, 0, 1, 1, 0, NONE, 0, 0);
        Check.bed("at first", x, 1, 0, NONE, NONE, NONE, 0, 0);
        Check.due("the torn root's count is not needed", x.whole(4), 1);
        for (int key = 0; key < 100; key++) {
            Check.due("get(" + key + ")", x.get(key), NONE);
        }
    }

    // Each number of steps, upon the torn root of the beginning and upon a whole one
    private static void stepsAtFirst() {
        int[][] root = {{0, NONE, 0, 0}, {0, NONE, 0, 0}, {2, 1, 0, 0}, {2, 1, 1, 1}};
        for (int steps = 0; steps <= 3; steps++) {
            PageGarden x = new PageGarden();
            Check.due("commit(" + steps + ")", commitValue(x, 7, steps), steps < 3 ? NONE : 1);
            Check.root("commit(" + steps + ")", x, 1, root[steps]);
            Check.root("commit(" + steps + ")", x, 0, 1, 0, 1, steps < 3 ? 1 : 0);
            Check.due("get", x.get(5), steps < 3 ? NONE : 7);
            Check.due("draft", x.whole(8), 0);
            Check.due("new beds", x.whole(9), 0);
            Check.due("left beds", x.whole(10), 0);
            Check.due("whole commits", x.whole(11), steps < 3 ? 0 : 1);
            Check.due("lost drafts", x.whole(12), steps < 3 ? 1 : 0);
            Check.due("needed count", x.whole(4), 1);
        }
    }

    private static void stepsUponAWholeRoot() {
        int[][] root = {{2, 1, 1, 0}, {2, 1, 0, 0}, {4, 0, 0, 0}, {4, 0, 1, 1}};
        int[] needed = {2, 3, 3, 3};
        for (int steps = 0; steps <= 3; steps++) {
            PageGarden x = withCommits(2);
            Check.due("commit(" + steps + ")", commitValue(x, 7, steps), steps < 3 ? NONE : 2);
            Check.root("commit(" + steps + ")", x, 1, root[steps]);
            Check.root("commit(" + steps + ")", x, 0, 3, 3, 1, steps < 3 ? 1 : 0);
            Check.due("needed count", x.whole(4), needed[steps]);
            Check.due("get", x.get(5), steps < 3 ? 2 : 7);
            Check.due("begin()", x.begin(), steps < 3 ? 3 : 4);
            Check.due("drafted", x.drafted(5), steps < 3 ? 2 : 7);
        }
    }

    // "a torn root is never chosen": not by the greater count, not by the only bed of its count
    private static void tornRoots() {
        PageGarden x = withCommits(2);
        for (int turn = 0; turn < 3; turn++) {
            Check.due("lost", commitValue(x, 9, 2), NONE);
            // Freed beds are dug first, 0 and then 1 and 2; as they are wild then, 0 is the lowest again.
            Check.root("the greater count, but torn", x, 1, 4, turn == 1 ? 1 : 0, 0, 0);
            Check.root("the lesser count, but whole", x, 0, 3, 3, 1, 1);
        }
        Check.due("lost behind that", commitValue(x, 9, 0), NONE);
        Check.root("no step leaves it as it was", x, 1, 4, 0, 0, 0);
        Check.due("lost behind that", commitValue(x, 9, 1), NONE);
        Check.root("one step leaves it torn", x, 1, 4, 0, 0, 0);
        Check.due("get", x.get(5), 2);
        Check.due("lost drafts", x.whole(12), 5);
        Check.due("whole commits", x.whole(11), 2);
        Check.due("a whole commit", commitValue(x, 9, 3), 2);
        Check.root("is current with the count that was torn", x, 1, 4, 0, 1, 1);
        Check.root("the other one is asleep", x, 0, 3, 3, 1, 0);
        Check.due("commit", commitValue(x, 10, 3), 2);
        Check.root("then it is the other one's turn", x, 0, 5, 2, 1, 1);
        Check.root("and this one sleeps", x, 1, 4, 0, 1, 0);
    }

    // The current root is never written, whichever of the two it is.
    private static void inTurn() {
        PageGarden x = new PageGarden();
        for (int count = 2; count <= 12; count++) {
            int written = (count + 1) % 2;
            int other = 1 - written;
            int bed = x.root(other, 1);
            commitValue(x, count, 0);
            commitValue(x, count, 1);
            commitValue(x, count, 2);
            Check.root("lost ones leave the current root", x, other, count - 1, bed, 1, 1);
            commitValue(x, count, 3);
            Check.root("written", x, written, count, x.root(written, 1), 1, 1);
            Check.root("asleep", x, other, count - 1, bed, 1, 0);
            Check.due("needed count", x.whole(4), count - 1);
        }
    }

    // "If the draft has no change, nothing is written (.. whatever the steps), nothing is counted"
    private static void noChange(int commits) {
        for (int steps = 0; steps <= 3; steps++) {
            PageGarden x = withCommits(commits);
            PageGarden same = withCommits(commits);
            x.begin();
            int asked = steps;
            Check.answer("commit without a change", 0, () -> x.commit(asked));
            same.open();
            same.close(0);
            Check.due("nothing is another", x.digest(), same.digest());
            x.begin();
            x.put(9, 9);
            x.undo();
            Check.answer("commit of a change that was undone", 0, () -> x.commit(asked));
            Check.whole("nothing is counted", x, same.whole(0), same.whole(1), same.whole(2), same.whole(3),
                    same.whole(4), same.whole(5), same.whole(6), 0, 0, 0, 0, commits, 0);
            x.begin();
            x.put(9, 9);
            x.remove(9);
            Check.answer("a change that was taken back is a change", steps < 3 ? NONE : commits > 0 ? 2 : 1,
                    () -> x.commit(asked));
            Check.due("lost", x.whole(12), steps < 3 ? 1 : 0);
        }
    }

    // "There are at most 4 readers"
    private static void fourReaders() {
        PageGarden x = new PageGarden();
        for (int reader = 0; reader < 4; reader++) {
            int due = reader;
            Check.due("open readers", x.whole(7), reader);
            Check.answer("open()", due, () -> x.open());
        }
        Check.due("open readers", x.whole(7), 4);
        Check.badState("a fifth one", x, () -> x.open());
        for (int reader = 3; reader >= 0; reader--) {
            int due = reader;
            Check.answer("close", 0, () -> x.close(due));
            Check.due("open readers", x.whole(7), 3);
            Check.badState("close again", x, () -> x.close(due));
            Check.answer("the only one that is not open", due, () -> x.open());
            Check.badState("a fifth one", x, () -> x.open());
        }
        x.close(3);
        x.close(1);
        Check.answer("the lowest of two", 1, () -> x.open());
        Check.answer("the other one", 3, () -> x.open());
        for (int reader = 0; reader < 4; reader++) {
            x.close(reader);
        }
        Check.due("open readers", x.whole(7), 0);
        Check.answer("the lowest of all", 0, () -> x.open());
    }

    // "A reader that is open stays with the root that was current when it opened": a torn one is not that.
    private static void readersOfTornRoots() {
        PageGarden x = withCommits(2);
        commitValue(x, 9, 2);
        Check.answer("open()", 0, () -> x.open());
        Check.reader("the whole one", x, 0, 3, 3, 1);
        Check.due("read", x.read(0, 5), 2);
        for (int value = 10; value < 20; value++) {
            commitValue(x, value, 3);
            Check.reader("stays", x, 0, 3, 3, 1);
            Check.due("read", x.read(0, 5), 2);
            Check.due("bed of its directory", x.bed(3, 0), 2);
            Check.due("can not be dug", x.bed(3, 4), 0);
            Check.due("changed", x.changedSince(0), 1);
        }
        Check.due("needed", x.whole(4), 3);
        Check.due("needed without it", x.neededWithout(0), 12);
        x.close(0);
        Check.reader("closed", x, 0, NONE, NONE, NONE);
        Check.badState("read", x, () -> x.read(0, 5));
    }

    // "of freed beds that can be dug then and could not before"
    private static void closeOneOfTwo() {
        PageGarden x = withCommits(3);
        x.open();
        commitValue(x, 4, 3);
        x.open();
        commitValue(x, 5, 3);
        x.open();
        commitValue(x, 6, 3);
        Check.due("before", x.whole(3), 0);
        Check.due("needed without the youngest", x.neededWithout(2), 4);
        Check.answer("the youngest", 0, () -> x.close(2));
        Check.due("needed without the oldest", x.neededWithout(0), 5);
        Check.answer("the oldest: beds of the next count", 2, () -> x.close(0));
        Check.due("can be dug", x.whole(3), 2);
        Check.due("needed without the last one: the lesser root", x.neededWithout(1), 6);
        Check.answer("the last one", 2, () -> x.close(1));
        Check.due("can be dug", x.whole(3), 4);
    }

    // The needed count without a reader, where another one or a root has the same count, one less, one more
    private static void neededWithoutOneOfEqualOnes() {
        PageGarden x = withCommits(1);
        x.open();
        x.open();
        Check.due("the roots are at 1 and 2", x.neededWithout(0), 1);
        commitValue(x, 2, 3);
        Check.due("a reader and a root at 2", x.neededWithout(0), 2);
        x.close(1);
        Check.due("a root at 2", x.neededWithout(0), 2);
        commitValue(x, 3, 3);
        Check.due("roots at 3 and 4", x.neededWithout(0), 3);
        Check.answer("open()", 1, () -> x.open());
        Check.due("without the younger one", x.neededWithout(1), 2);
        Check.due("without the older one: 3 before 4", x.neededWithout(0), 3);
        x.begin();
        x.put(5, 0);
        x.commit(1);
        Check.due("a torn root at 3 is not needed", x.neededWithout(0), 4);
        Check.due("needed", x.whole(4), 2);
    }

    // From no key to 48 of them: 24 that have gone and 24 that have come
    private static void changedSince() {
        PageGarden x = new PageGarden();
        x.begin();
        Gardens.putSixLeaves(x);
        Gardens.fillSixLeaves(x);
        x.open();
        x.commit(3);
        Check.due("since the empty root", x.changedSince(0), 24);
        x.close(0);
        x.open();
        Check.due("since the current root", x.changedSince(0), 0);
        x.begin();
        Check.due("of a draft that is empty", x.changedSince(0), 0);
        for (int rank = 0; rank < 24; rank++) {
            x.remove(x.entry(rank, 0));
        }
        x.commit(3);
        Check.due("24 keys have gone", x.changedSince(0), 24);
        x.begin();
        for (int leaf = 0; leaf < 6; leaf++) {
            for (int at = 1; at < 4; at++) {
                x.put(10 * leaf + at + 4, at);
            }
        }
        for (int leaf = 0; leaf < 6; leaf++) {
            x.put(10 * leaf + 8, 4);
        }
        x.commit(3);
        Check.due("and 24 have come", x.changedSince(0), 48);
        Check.due("leaves", x.whole(6), 6);
        x.begin();
        x.remove(5);
        x.remove(6);
        x.remove(7);
        x.remove(8);
        x.put(1, 1);
        x.commit(3);
        Check.due("one is back as it was", x.changedSince(0), 43);
        x.begin();
        x.put(1, 2);
        x.commit(3);
        Check.due("it has another value", x.changedSince(0), 44);
    }

    private static void changedAtTheEnds() {
        PageGarden x = new PageGarden();
        x.begin();
        x.put(0, 0);
        x.put(99, -999);
        x.commit(3);
        x.open();
        for (int key : new int[] {0, 99}) {
            x.begin();
            x.put(key, 999);
            x.commit(3);
        }
        Check.due("both ends", x.changedSince(0), 2);
        x.begin();
        x.put(99, -999);
        x.commit(3);
        Check.due("the last key is back", x.changedSince(0), 1);
        x.begin();
        x.put(99, -998);
        x.commit(3);
        Check.due("one step off", x.changedSince(0), 2);
    }

    public static void main(String[] args) {
        atFirst();
        stepsAtFirst();
        stepsUponAWholeRoot();
        tornRoots();
        inTurn();
        noChange(0);
        noChange(1);
        noChange(2);
        fourReaders();
        readersOfTornRoots();
        closeOneOfTwo();
        neededWithoutOneOfEqualOnes();
        changedSince();
        changedAtTheEnds();
        Check.end("RootsEdgesTest");
    }
}
