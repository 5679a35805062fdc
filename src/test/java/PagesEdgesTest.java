/** The edges of leaves, directories and drafts: promises 2 to 6, 18 and 19, and the terms they stand on. */
public final class PagesEdgesTest {
    private static final int NONE = PageGarden.NONE;

    private static PageGarden drafting(int... keys) {
        PageGarden x = new PageGarden();
        if (keys.length > 0) {
            Check.committed(x, keys);
        }
        x.begin();
        return x;
    }

    // "a leaf, which has 1 to 4 entries": on the way up
    private static void leafGrows() {
        PageGarden x = drafting();
        int[] keys = {10, 20, 30, 40};
        for (int size = 1; size <= 4; size++) {
            int key = keys[size - 1];
            Check.answer("put of entry " + size, NONE, () -> x.put(key, key));
            Check.due("entries of the leaf", x.bed(2, 2), size);
            Check.due("leaves of the directory", x.bed(1, 2), 1);
            Check.due("new beds", x.whole(9), 2);
        }
        Check.answer("a key that a full leaf has", 40, () -> x.put(40, 41));
        Check.due("no split for it", x.bed(1, 2), 1);
        Check.answer("the fifth entry", NONE, () -> x.put(50, 50));
        Check.due("entries that stay", x.bed(2, 2), 3);
        Check.due("entries that go", x.bed(3, 2), 2);
        Check.due("leaves of the directory", x.bed(1, 2), 2);
        Check.answer("the sixth entry", NONE, () -> x.put(60, 60));
        Check.due("entries that stay", x.bed(2, 2), 3);
        Check.due("entries of the new leaf", x.bed(3, 2), 3);
    }

    // "a leaf without entries is dropped": on the way down, and with it "0 to 6 leaves"
    private static void leafShrinks() {
        PageGarden x = drafting();
        for (int key = 1; key <= 4; key++) {
            x.put(key, -key);
        }
        int[] order = {2, 4, 1};
        for (int at = 0; at < order.length; at++) {
            int key = order[at];
            Check.answer("remove", -key, () -> x.remove(key));
            Check.due("entries of the leaf", x.bed(2, 2), 3 - at);
            Check.due("the leaf stays", x.bed(1, 2), 1);
        }
        Check.answer("its last entry", -3, () -> x.remove(3));
        Check.bed("its bed is wild at once", x, 2, 0, NONE, NONE, NONE, 0, 0);
        Check.bed("a directory of no leaf", x, 1, 1, 1, 0, NONE, 0, 1);
        Check.badState("nothing is there to be removed", x, () -> x.remove(3));
        Check.answer("commit of an empty directory", 1, () -> x.commit(3));
        Check.due("entries", x.whole(5), 0);
        Check.due("leaves", x.whole(6), 0);
        Check.due("sum", x.whole(13), 0);
        Check.badIndex("no entry", x, () -> x.entry(0, 0));
        x.begin();
        Check.answer("bedsFor a first leaf behind an old empty directory", 2, () -> x.bedsFor(3));
        Check.answer("put of a first leaf again", NONE, () -> x.put(3, 3));
        Check.due("new beds", x.whole(9), 2);
    }

    // An empty directory has no key, whatever the beds held last: here bed 0 a leaf of 4 and 5.
    private static void emptyDirectory() {
        PageGarden x = drafting(1);
        x.abort();
        Check.committed(x, 2);
        x.begin();
        x.put(3, 3);
        x.commit(1);
        Check.committed(x, 3, 4, 5);
        x.begin();
        for (int key = 1; key <= 5; key++) {
            x.remove(key);
        }
        Check.bed("a leaf in bed 0", x, 0, 1, 0, 2, NONE, 0, 0);
        x.open();
        x.commit(3);
        Check.bed("it is freed", x, 0, 2, 0, 2, 5, 0, 0);
        x.open();
        x.begin();
        for (int key = 0; key <= 6; key++) {
            int asked = key;
            Check.answer("get of an empty root", NONE, () -> x.get(asked));
            Check.answer("drafted of an empty directory", NONE, () -> x.drafted(asked));
            Check.answer("read of an empty root", NONE, () -> x.read(1, asked));
            Check.answer("read of the root before", key >= 1 && key <= 5 ? key : NONE, () -> x.read(0, asked));
            Check.answer("bedsFor", 2, () -> x.bedsFor(asked));
            Check.badState("remove", x, () -> x.remove(asked));
        }
        Check.due("all five differ", x.changedSince(0), 5);
        Check.due("none differs", x.changedSince(1), 0);
    }

    private static int leavesOf(int count) {
        return count < 5 ? 1 : count < 8 ? 2 : count < 11 ? 3 : count < 14 ? 4 : count < 17 ? 5 : 6;
    }

    // "0 to 6 leaves": with keys that ascend the last leaf is split whenever it gets a fifth entry
    private static void directoryGrows() {
        PageGarden x = drafting();
        for (int count = 1; count <= 19; count++) {
            int key = count;
            Check.answer("bedsFor entry " + count, leavesOf(count) + 1 - x.whole(9),
                    () -> x.bedsFor(key));
            Check.answer("put of entry " + count, NONE, () -> x.put(key, key));
            Check.due("leaves of " + count + " entries", x.bed(1, 2), leavesOf(count));
            Check.due("new beds", x.whole(9), leavesOf(count) + 1);
        }
        Check.answer("bedsFor a seventh leaf", NONE, () -> x.bedsFor(20));
        Check.answer("reason", 1, () -> x.reason(20));
        Check.badState("put that would make a seventh leaf", x, () -> x.put(20, 20));
        Check.answer("commit", 1, () -> x.commit(3));
        Check.due("entries", x.whole(5), 19);
        Check.due("leaves", x.whole(6), 6);
        Check.same("the leaves", Check.leaves(x), "1 2 3 | 4 5 6 | 7 8 9 | 10 11 12 | 13 14 15 | 16 17 18 19");
    }

    // The same directory from six leaves back to five, and to six again.
    private static void sixthLeafAgain() {
        PageGarden x = drafting();
        Gardens.putSixLeaves(x);
        Check.badState("a seventh leaf", x, () -> x.put(55, 5));
        x.remove(1);
        x.remove(2);
        Check.badState("a seventh leaf, with one entry in the first", x, () -> x.put(55, 5));
        Check.answer("the first leaf is dropped", 3, () -> x.remove(3));
        Check.due("five leaves", x.bed(1, 2), 5);
        Check.answer("bedsFor the sixth leaf", 1, () -> x.bedsFor(55));
        Check.answer("the sixth leaf", NONE, () -> x.put(55, 5));
        Check.due("six leaves", x.bed(1, 2), 6);
        x.put(56, 6);
        x.put(57, 7);
        Check.answer("bedsFor the next one", NONE, () -> x.bedsFor(58));
        x.commit(3);
        Check.same("the leaves", Check.leaves(x),
                "11 12 13 | 21 22 23 | 31 32 33 | 41 42 43 | 51 52 53 | 54 55 56 57");
    }

    // A full sixth leaf stands against its own fifth entry, not against entries of leaves with room.
    private static void allLeavesFull() {
        PageGarden x = drafting();
        Gardens.putSixLeaves(x);
        for (int leaf = 0; leaf < 5; leaf++) {
            int key = 10 * leaf + 4;
            Check.answer("reason with three entries", 0, () -> x.reason(key));
            Check.answer("bedsFor with three entries", 0, () -> x.bedsFor(key));
            Check.answer("put of a fourth entry", NONE, () -> x.put(key, 4));
            Check.answer("bedsFor a fifth entry", NONE, () -> x.bedsFor(key + 1));
        }
        x.commit(3);
        Check.due("24 entries", x.whole(5), 24);
        x.begin();
        for (int key = 0; key < 100; key++) {
            int asked = key;
            boolean isThere = key < 60 && key % 10 >= 1 && key % 10 <= 4;
            Check.answer("bedsFor(" + key + ")", isThere ? 2 : NONE, () -> x.bedsFor(asked));
            Check.answer("reason(" + key + ")", isThere ? 0 : 1, () -> x.reason(asked));
        }
        Check.badIndex("entry 24 of 24", x, () -> x.entry(24, 0));
        Check.entry("entry 23 of 24", x, 23, 54, 4, 7, 3);
        Check.badState("put of a 25th entry", x, () -> x.put(0, 0));
    }

    private static void sums() {
        for (int value : new int[] {999, -999}) {
            PageGarden x = drafting();
            Gardens.putSixLeaves(x);
            Gardens.fillSixLeaves(x);
            for (int leaf = 0; leaf < 6; leaf++) {
                for (int at = 1; at <= 4; at++) {
                    x.put(10 * leaf + at, value);
                }
            }
            x.commit(3);
            Check.due("the sum of 24 values at the end of their range", x.whole(13), 24 * value);
        }
    }

    private static void split(int key, String entries) {
        PageGarden x = drafting(10, 20, 30, 40);
        Check.answer("a split digs three beds", 3, () -> x.bedsFor(key));
        x.put(key, 1);
        Check.answer("directory and leaf are freed", 2, () -> x.commit(3));
        Check.same("split by " + key, Check.entries(x), entries);
    }

    // The last 2 entries go, wherever the new one is; bed 3 is dug for the directory, 4 for the copy of the
    // leaf, 5 for the new leaf.
    private static void splits() {
        split(9, "9@4/0 10@4/1 20@4/2 30@5/0 40@5/1");
        split(11, "10@4/0 11@4/1 20@4/2 30@5/0 40@5/1");
        split(21, "10@4/0 20@4/1 21@4/2 30@5/0 40@5/1");
        split(29, "10@4/0 20@4/1 29@4/2 30@5/0 40@5/1");
        split(31, "10@4/0 20@4/1 30@4/2 31@5/0 40@5/1");
        split(41, "10@4/0 20@4/1 30@4/2 40@5/0 41@5/1");
    }

    // The leaves are 10 20 30 (bed 2), 40 50 60 (bed 3) and 70 80 (bed 4); the one that is put into is copied
    // into bed 6.
    private static void goesTo(int key, String leaves, int leaf) {
        PageGarden x = drafting(10, 20, 30, 40, 50, 60, 70, 80);
        x.put(key, -1);
        x.commit(3);
        Check.same("behind put of " + key, Check.leaves(x), leaves);
        for (int bed = 2; bed <= 4; bed++) {
            Check.due("put of " + key + ": bed " + bed + " is freed", x.bed(bed, 0), bed == leaf ? 2 : 1);
        }
        Check.answer("get(" + key + ")", -1, () -> x.get(key));
    }

    // "the last one whose first key is not greater than the key, or the first leaf if there is none"
    private static void placesOfPuts() {
        goesTo(0, "0 10 20 30 | 40 50 60 | 70 80", 2);
        goesTo(9, "9 10 20 30 | 40 50 60 | 70 80", 2);
        goesTo(10, "10 20 30 | 40 50 60 | 70 80", 2);
        goesTo(11, "10 11 20 30 | 40 50 60 | 70 80", 2);
        goesTo(31, "10 20 30 31 | 40 50 60 | 70 80", 2);
        goesTo(39, "10 20 30 39 | 40 50 60 | 70 80", 2);
        goesTo(40, "10 20 30 | 40 50 60 | 70 80", 3);
        goesTo(41, "10 20 30 | 40 41 50 60 | 70 80", 3);
        goesTo(69, "10 20 30 | 40 50 60 69 | 70 80", 3);
        goesTo(70, "10 20 30 | 40 50 60 | 70 80", 4);
        goesTo(71, "10 20 30 | 40 50 60 | 70 71 80", 4);
        goesTo(79, "10 20 30 | 40 50 60 | 70 79 80", 4);
        goesTo(80, "10 20 30 | 40 50 60 | 70 80", 4);
        goesTo(81, "10 20 30 | 40 50 60 | 70 80 81", 4);
        goesTo(99, "10 20 30 | 40 50 60 | 70 80 99", 4);
    }

    // A first key that was removed no longer draws its leaf's keys.
    private static void firstKeyIsGone() {
        PageGarden x = drafting(10, 20, 30, 40, 50, 60);
        x.remove(40);
        x.put(45, 45);
        x.put(50, 0);
        x.commit(3);
        Check.same("the first leaf ends where the second one begins", Check.leaves(x), "10 20 30 45 | 50 60");
    }

    private static void descending() {
        PageGarden x = drafting();
        for (int key = 99; key >= 92; key--) {
            x.put(key, key);
        }
        x.commit(3);
        Check.same("keys that descend", Check.leaves(x), "92 93 94 95 | 96 97 | 98 99");
        x.begin();
        x.put(0, 0);
        x.commit(3);
        Check.same("a split of the first of three leaves", Check.leaves(x), "0 92 93 | 94 95 | 96 97 | 98 99");
    }

    // "A change that touches a leaf copies it into a dug bed, unless it is new in this draft": each but once
    private static void copiesOnce() {
        PageGarden x = drafting(1, 2, 3, 4, 5);
        Check.due("no change", x.whole(9), 0);
        x.put(1, 1);
        Check.due("the directory and a leaf", x.whole(9), 2);
        Check.due("are left", x.whole(10), 2);
        x.put(2, 2);
        x.remove(3);
        Check.due("a new leaf is changed in place", x.whole(9), 2);
        x.remove(5);
        Check.due("the other leaf", x.whole(9), 3);
        Check.due("is left", x.whole(10), 3);
        x.put(5, 5);
        Check.due("a new leaf is changed in place", x.whole(9), 3);
        Check.answer("all of them are freed", 3, () -> x.commit(3));
        Check.answer("a draft digs anew", 2, () -> {
            x.begin();
            return x.bedsFor(1);
        });
    }

    // "unless it is .. dropped by the change": a leaf of one entry is dropped without a copy, of two it is copied
    private static void dropsWithoutACopy() {
        PageGarden two = drafting(1, 2);
        two.remove(1);
        Check.due("a leaf of two entries is copied", two.whole(9), 2);
        Check.answer("and changed in place then", 2, () -> two.remove(2));
        Check.due("its copy is wild again", two.whole(9), 1);
        Check.due("the leaf and the directory are left", two.whole(10), 2);
        Check.answer("commit", 2, () -> two.commit(3));
        PageGarden one = drafting(1);
        Check.answer("remove", 1, () -> one.remove(1));
        Check.due("a leaf of one entry is not copied", one.whole(9), 1);
        Check.due("the leaf and the directory are left", one.whole(10), 2);
        Check.due("the leaf is not wild", one.bed(2, 0), 1);
        Check.answer("commit", 2, () -> one.commit(3));
        Check.bed("it is freed with its entry", one, 2, 2, 0, 1, 3, 0, 0);
    }

    // The place of the leaf that is dropped: the first, one between, the last.
    private static void dropped(int first, String leaves) {
        PageGarden x = drafting(10, 20, 30, 40, 50, 60, 70, 80, 90);
        for (int key = first; key < first + 30; key += 10) {
            x.remove(key);
        }
        x.commit(3);
        Check.same("without " + first, Check.leaves(x), leaves);
        Check.due("leaves", x.whole(6), 2);
        Check.due("sum of the values, which are the keys", x.whole(13), 450 - (3 * first + 30));
    }

    private static void dropsAnyLeaf() {
        dropped(10, "40 50 60 | 70 80 90");
        dropped(40, "10 20 30 | 70 80 90");
        dropped(70, "10 20 30 | 40 50 60");
    }

    // "Pages do not change once they are in a root"
    private static void oldPagesStay() {
        PageGarden x = drafting(1, 2, 3, 4, 5);
        x.open();
        x.put(0, 0);
        x.put(2, -2);
        x.remove(5);
        x.remove(4);
        for (int turn = 0; turn < 3; turn++) {
            Check.bed("the old directory", x, 1, turn == 0 ? 1 : 2, 1, 2);
            Check.bed("the old first leaf", x, 2, turn == 0 ? 1 : 2, 0, 3);
            Check.bed("the old second leaf", x, 3, turn == 0 ? 1 : 2, 0, 2);
            for (int key = 0; key <= 6; key++) {
                int asked = key;
                Check.answer("read", key >= 1 && key <= 5 ? key : NONE, () -> x.read(0, asked));
            }
            if (turn == 0) {
                x.commit(3);
            } else {
                Check.committed(x, 6);
            }
        }
    }

    // "(also if it is the same: it is a change as any)"
    private static void theSameValue() {
        PageGarden x = drafting(7);
        Check.answer("the same value", 7, () -> x.put(7, 7));
        Check.due("directory and leaf", x.whole(9), 2);
        Check.answer("again, in place", 7, () -> x.put(7, 7));
        Check.due("directory and leaf", x.whole(9), 2);
        Check.answer("it is lost as any", NONE, () -> x.commit(0));
        Check.due("lost", x.whole(12), 1);
        x.begin();
        x.put(7, 7);
        Check.answer("it is committed as any", 2, () -> x.commit(3));
        Check.due("commits", x.whole(11), 2);
        Check.due("count", x.root(0, 0), 3);
    }

    // "There is at most one draft."
    private static void oneDraft() {
        PageGarden x = new PageGarden();
        Check.answer("a first one", 1, () -> x.begin());
        Check.badState("a second one", x, () -> x.begin());
        x.put(1, 1);
        Check.badState("a second one, behind a change", x, () -> x.begin());
        x.abort();
        Check.answer("behind abort", 1, () -> x.begin());
        x.commit(0);
        Check.answer("behind a commit without a change", 1, () -> x.begin());
        x.put(1, 1);
        x.commit(0);
        Check.answer("behind a lost one", 1, () -> x.begin());
        x.put(1, 1);
        x.commit(3);
        Check.answer("behind a commit", 2, () -> x.begin());
    }

    // abort: "Returns the number of these beds.", from none to the eight of a directory and six leaves and more
    private static void aborts() {
        Check.answer("no change", 0, () -> drafting(1).abort());
        PageGarden one = drafting(1);
        one.remove(1);
        Check.answer("a directory alone", 1, () -> one.abort());
        Check.answer("the key is back", 1, () -> one.get(1));
        PageGarden three = drafting(1, 2, 3, 4);
        three.put(5, 5);
        Check.answer("a directory and two leaves", 3, () -> three.abort());
        Check.same("the leaves are the old ones", Check.entries(three), "1@2/0 2@2/1 3@2/2 4@2/3");
        Check.due("nothing is left any more", three.whole(10), 0);
        Check.due("nothing is new any more", three.whole(9), 0);
        PageGarden seven = drafting();
        Gardens.putSixLeaves(seven);
        Check.answer("a directory and six leaves", 7, () -> seven.abort());
        Check.due("wild beds", seven.whole(0), 31);
    }

    public static void main(String[] args) {
        leafGrows();
        leafShrinks();
        emptyDirectory();
        directoryGrows();
        sixthLeafAgain();
        allLeavesFull();
        sums();
        splits();
        placesOfPuts();
        firstKeyIsGone();
        descending();
        copiesOnce();
        dropsWithoutACopy();
        dropsAnyLeaf();
        oldPagesStay();
        theSameValue();
        oneDraft();
        aborts();
        Check.end("PagesEdgesTest");
    }
}
