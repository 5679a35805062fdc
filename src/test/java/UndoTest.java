import java.util.ArrayList;
import java.util.List;
import java.util.function.Consumer;

/** Promises 25 and 26: undo and digest. */
public final class UndoTest {
    /** The digest as the document tells it, out of the answers of the public calls. */
    private static long digestOf(PageGarden x, int states) {
        List<Integer> row = new ArrayList<>();
        row.add(states);
        for (int what = 0; what < 15; what++) {
            row.add(x.whole(what));
        }
        for (int at = 0; at < 2 * 4; at++) {
            row.add(x.root(at / 4, at % 4));
        }
        for (int at = 0; at < 4 * 3; at++) {
            row.add(x.reader(at / 3, at % 3));
        }
        for (int at = 0; at < 32 * 6; at++) {
            row.add(x.bed(at / 6, at % 6));
        }
        int entries = row.get(1 + 5);
        for (int at = 0; at < entries * 4; at++) {
            row.add(x.entry(at / 4, at % 4));
        }
        row.add(x.nextBed());
        boolean drafting = row.get(1 + 8) == 1;
        for (int key = 0; key < 100 && drafting; key++) {
            row.add(x.drafted(key));
        }
        long hash = 43518;
        for (int value : row) {
            hash = 31 * hash + value;
        }
        return hash;
    }

    private static void emptyStack() {
        PageGarden x = new PageGarden();
        Check.badState("undo() of nothing", x, () -> x.undo());
        x.begin();
        Check.due("undo()", x.undo(), 0);
        Check.badState("undo() of undo()", x, () -> x.undo());
        x.begin();
        Check.due("undo() of a second begin()", x.undo(), 0);
    }

    private static void fourStates() {
        PageGarden x = new PageGarden();
        x.begin();
        for (int key = 0; key < 5; key++) {
            x.put(key, key);
        }
        for (int left = 3; left >= 0; left--) {
            Check.due("undo()", x.undo(), left);
            Check.due("the key that was put last", x.drafted(left), left == 0 ? 0 : left);
            Check.due("the key that is undone", x.drafted(left + 1), PageGarden.NONE);
        }
        Check.badState("a fifth undo()", x, () -> x.undo());
        Check.due("the oldest change stays", x.drafted(0), 0);
        for (int key = 10; key < 13; key++) {
            x.put(key, key);
        }
        Check.due("the stack fills anew", x.undo(), 2);
    }

    private static List<Consumer<PageGarden>> undoableCalls() {
        return List.of(x -> x.begin(), x -> x.put(1, 1), x -> x.put(2, 2), x -> x.remove(1), x -> x.commit(3),
                x -> x.open(), x -> x.begin(), x -> x.put(2, 2), x -> x.commit(2), x -> x.begin(), x -> x.put(5, 5),
                x -> x.abort(), x -> x.close(0), x -> x.runCommands(), x -> x.commit(3), x -> x.begin(),
                x -> x.put(6, 6));
    }

    // Each of them is undone on an object of its own, which is not asked more than 512 times.
    private static void everyUndoableCall() {
        List<Consumer<PageGarden>> calls = undoableCalls();
        for (int at = 0; at < calls.size(); at++) {
            PageGarden x = new PageGarden();
            Check.type(x, "open;begin;put 3 3;");
            for (int before = 0; before < at; before++) {
                calls.get(before).accept(x);
            }
            long before = x.digest();
            calls.get(at).accept(x);
            long behind = x.digest();
            Check.due("undo() of call " + at, x.undo(), Math.min(at, 3));
            Check.due("state behind undo() of call " + at, digestOf(x, Math.min(at, 4)), before);
            calls.get(at).accept(x);
            Check.due("digest of call " + at + " again", x.digest(), behind);
        }
    }

    private static void whatChangesNothingIsSavedToo() {
        PageGarden x = new PageGarden();
        x.begin();
        x.commit(0);
        Check.due("begin() and commit(0) are saved", x.undo(), 1);
        Check.due("the draft is back", x.whole(8), 1);
        x.put(1, 1);
        x.put(1, 1);
        Check.due("a put of the same value is saved", x.undo(), 2);
    }

    private static void whatIsNotUndoable() {
        PageGarden x = new PageGarden();
        x.begin();
        Check.type(x, "open; ");
        x.get(1);
        x.drafted(1);
        x.nextBed();
        x.bedsFor(1);
        x.reason(1);
        x.digest();
        Check.type(x, "x");
        Check.due("a text with a fault", x.runCommands(), -16);
        Check.due("undo() of begin()", x.undo(), 0);
        Check.due("the text stays", x.whole(14), 7);
        x.open();
        x.clearCommands();
        Check.due("undo() of open()", x.undo(), 0);
        Check.due("the text stays cleared", x.whole(14), 0);
    }

    private static void undoRestoresPages() {
        PageGarden x = new PageGarden();
        Check.committed(x, 10, 20, 30, 40);
        x.begin();
        x.put(20, 0);
        long before = x.digest();
        x.put(25, 25);
        x.remove(10);
        x.put(30, -1);
        Check.due("three undos", x.undo() + x.undo() + x.undo(), 3 + 2 + 1);
        Check.due("drafted", x.drafted(10) + x.drafted(20) + x.drafted(30) + x.drafted(40), 80);
        Check.due("the key that was new", x.drafted(25), PageGarden.NONE);
        Check.due("the values behind them", digestOf(x, 4), before);
        x.commit(3);
        Check.due("get", x.get(10) + x.get(20) + x.get(30) + x.get(40), 80);
        Check.due("undo() of a whole commit", x.undo(), 1);
        Check.due("get", x.get(20), 20);
        Check.due("whole(11)", x.whole(11), 1);
        x.commit(1);
        Check.due("whole(12)", x.whole(12), 1);
        Check.due("undo() of a lost commit", x.undo(), 1);
        Check.due("whole(12)", x.whole(12), 0);
        Check.due("root 0 is whole again", x.root(0, 2), 1);
    }

    private static void undoRestoresDirectories() {
        PageGarden x = new PageGarden();
        x.begin();
        for (int key = 10; key < 60; key += 10) {
            x.put(key, key);
        }
        x.put(11, 11);
        x.put(12, 12);
        Check.due("a leaf between the two", x.bed(1, 2), 3);
        Check.due("undo() of the split", x.undo(), 3);
        Check.due("undo() of the put", x.undo(), 2);
        Check.due("drafted(40)", x.drafted(40), 40);
        Check.due("drafted(12)", x.drafted(12), PageGarden.NONE);
        x.put(11, 11);
        x.undo();
        Check.due("leaves", x.bed(1, 2), 2);
        x.remove(40);
        x.remove(50);
        Check.due("one leaf is left", x.bed(1, 2), 1);
        x.undo();
        x.undo();
        Check.due("drafted(50)", x.drafted(50), 50);
        Check.due("digest()", x.digest(), digestOf(x, 2));
    }

    private static void digest() {
        PageGarden x = new PageGarden();
        Check.due("of a new object", x.digest(), digestOf(x, 0));
        Check.due("it is always the same", x.digest(), new PageGarden().digest());
        PageGarden y = new PageGarden();
        Check.type(y, "b");
        Check.due("it counts the text's length", x.digest() == y.digest() ? 1 : 0, 0);
        Check.committed(y, 0, 99, 50, 60, 70);
        y.open();
        y.begin();
        y.put(50, -999);
        Check.due("with a draft and a reader", y.digest(), digestOf(y, 4));
    }

    public static void main(String[] args) {
        emptyStack();
        fourStates();
        everyUndoableCall();
        whatChangesNothingIsSavedToo();
        whatIsNotUndoable();
        undoRestoresPages();
        undoRestoresDirectories();
        digest();
        Check.end("UndoTest");
    }
}
