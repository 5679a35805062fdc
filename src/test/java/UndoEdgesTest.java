import java.math.BigInteger;
import java.util.ArrayDeque;
import java.util.ArrayList;
import java.util.Deque;
import java.util.List;

/** The edges of undo, of the digest and of an object's life: promises 25 and 26, and the terms they stand on. */
public final class UndoEdgesTest {
    private static final int NONE = PageGarden.NONE;

    private static final int NO_DRAFT = -2000;
    private static final int STEPS = 12;

    private interface Use {
        void of(PageGarden garden);
    }

    // ---- the stack

    private static final List<Use> UNDOABLE = List.of(PageGarden::begin, x -> x.put(1, 1), x -> x.put(2, 2),
            x -> x.remove(1), x -> x.commit(3), PageGarden::open, PageGarden::open, PageGarden::begin,
            x -> x.put(1, 5), PageGarden::abort, x -> x.close(0), PageGarden::runCommands, PageGarden::begin,
            x -> x.put(7, 7), x -> x.commit(1), PageGarden::begin, x -> x.put(8, 8), x -> x.commit(2),
            PageGarden::begin, x -> x.commit(0));

    /** The digest of all but the number of saved states, by running the same calls on a new object. */
    private static long stateOf(int calls, int saved) {
        PageGarden x = new PageGarden();
        for (int at = 0; at < calls; at++) {
            UNDOABLE.get(at).of(x);
        }
        return digestOf(x, saved);
    }

    // "The stack keeps the latest 4 saved states and drops older ones.": behind every number of calls from none
    private static void fourStates() {
        for (int calls = 0; calls <= UNDOABLE.size(); calls++) {
            PageGarden x = new PageGarden();
            for (int at = 0; at < calls; at++) {
                UNDOABLE.get(at).of(x);
            }
            int kept = Math.min(calls, 4);
            String where = "behind " + calls + " calls";
            for (int undone = 1; undone <= kept; undone++) {
                int left = kept - undone;
                Check.answer(where + ": undo()", left, () -> x.undo());
                Check.due(where + ": the state before", x.digest(), stateOf(calls - undone, left));
            }
            Check.badState(where + ": nothing is left", x, () -> x.undo());
        }
    }

    /** A stack beside the garden's, which goes round its four places in every order of puts and undos. */
    private static void ringOfStates(int pattern) {
        PageGarden x = new PageGarden();
        Deque<Integer> saved = new ArrayDeque<>();
        x.begin();
        saved.addLast(NO_DRAFT);
        int value = NONE;
        for (int step = 0; step < STEPS; step++) {
            if ((pattern >> step & 1) == 1) {
                saved.addLast(value);
                value = step;
                x.put(1, value);
            } else if (saved.isEmpty()) {
                Check.badState("undo() of nothing in pattern " + pattern, x, () -> x.undo());
            } else if (saved.peekLast() != NO_DRAFT) {
                value = saved.removeLast();
                Check.due("undo() in pattern " + pattern, x.undo(), saved.size());
            }
            if (saved.size() > 4) {
                saved.removeFirst();
            }
            Check.due("drafted(1) in pattern " + pattern, x.drafted(1), value);
        }
    }

    // "Every method that is marked undoable saves .. when it ends normally, also if it changes nothing."
    /** With two states on the stack, where there is room for more. */
    private static void saves(String call, int saved, PageGarden x, Use use) {
        for (int turn = 0; turn < 2; turn++) {
            x.open();
            x.close(3);
        }
        x.undo();
        Check.answer("states before " + call, 2, () -> x.undo());
        use.of(x);
        Check.answer("states that are left behind " + call, 1 + saved, () -> x.undo());
    }

    private static PageGarden threeReaders() {
        PageGarden x = new PageGarden();
        for (int reader = 0; reader < 3; reader++) {
            x.open();
        }
        return x;
    }

    private static PageGarden draft() {
        PageGarden x = threeReaders();
        x.begin();
        x.put(1, 1);
        return x;
    }

    private static PageGarden emptyDraft() {
        PageGarden x = threeReaders();
        x.begin();
        return x;
    }

    private static PageGarden typed(String text) {
        PageGarden x = threeReaders();
        Check.type(x, text);
        return x;
    }

    private static void whatSaves() {
        saves("begin", 1, threeReaders(), PageGarden::begin);
        saves("put", 1, draft(), x -> x.put(2, 2));
        saves("put of what is there", 1, draft(), x -> x.put(1, 1));
        saves("remove", 1, draft(), x -> x.remove(1));
        saves("commit", 1, draft(), x -> x.commit(3));
        saves("a lost commit", 1, draft(), x -> x.commit(0));
        saves("a commit without a change", 1, emptyDraft(), x -> x.commit(3));
        saves("abort", 1, draft(), PageGarden::abort);
        saves("abort without a change", 1, emptyDraft(), PageGarden::abort);
        saves("open", 1, draft(), PageGarden::open);
        saves("close", 1, draft(), x -> x.close(0));
        saves("a run", 1, typed("open;close 0;begin;"), PageGarden::runCommands);
        saves("a run of nothing", 1, typed(""), PageGarden::runCommands);
        saves("a run that is refused at once", 1, typed("abort;"), PageGarden::runCommands);
    }

    private static void whatDoesNotSave() {
        saves("a fault", 0, typed("open;x"), PageGarden::runCommands);
        saves("type", 0, draft(), x -> x.type(1));
        saves("clearCommands", 0, typed("open;"), PageGarden::clearCommands);
        saves("get", 0, draft(), x -> x.get(1));
        saves("drafted", 0, draft(), x -> x.drafted(1));
        saves("read", 0, draft(), x -> x.read(0, 1));
        saves("root", 0, draft(), x -> x.root(0, 0));
        saves("reader", 0, draft(), x -> x.reader(0, 0));
        saves("bed", 0, draft(), x -> x.bed(0, 0));
        saves("whole", 0, draft(), x -> x.whole(0));
        saves("nextBed", 0, draft(), PageGarden::nextBed);
        saves("bedsFor", 0, draft(), x -> x.bedsFor(9));
        saves("reason", 0, draft(), x -> x.reason(9));
        saves("neededWithout", 0, draft(), x -> x.neededWithout(0));
        saves("changedSince", 0, draft(), x -> x.changedSince(0));
        saves("digest", 0, draft(), PageGarden::digest);
        saves("a put that throws", 0, draft(), x -> Check.answerOf(() -> x.put(100, 0)));
        saves("a begin that throws", 0, draft(), x -> Check.answerOf(() -> x.begin()));
    }

    // "saves the whole state but the command text"
    private static void textIsNotSaved() {
        PageGarden x = new PageGarden();
        x.type('o');
        x.begin();
        Check.type(x, "pen;");
        Check.answer("undo()", 0, () -> x.undo());
        Check.due("length", x.whole(14), 5);
        Check.answer("the text runs", 1, () -> x.runCommands());
        Check.answer("clearCommands()", 5, () -> x.clearCommands());
        Check.answer("undo()", 0, () -> x.undo());
        Check.due("length", x.whole(14), 0);
        Check.due("readers", x.whole(7), 0);
    }

    // ---- the digest

    private static List<Integer> valuesOf(PageGarden x, int states) {
        List<Integer> row = new ArrayList<>();
        row.add(states);
        for (int what = 0; what <= 14; what++) {
            row.add(x.whole(what));
        }
        for (int root = 0; root <= 1; root++) {
            for (int what = 0; what <= 3; what++) {
                row.add(x.root(root, what));
            }
        }
        for (int reader = 0; reader <= 3; reader++) {
            for (int what = 0; what <= 2; what++) {
                row.add(x.reader(reader, what));
            }
        }
        for (int bed = 0; bed <= 31; bed++) {
            for (int what = 0; what <= 5; what++) {
                row.add(x.bed(bed, what));
            }
        }
        int entries = row.get(1 + 5);
        for (int rank = 0; rank < entries; rank++) {
            for (int what = 0; what <= 3; what++) {
                row.add(x.entry(rank, what));
            }
        }
        row.add(x.nextBed());
        boolean drafting = row.get(1 + 8) == 1;
        for (int key = 0; key <= 99 && drafting; key++) {
            row.add(x.drafted(key));
        }
        return row;
    }

    // "long arithmetic, overflow wraps": computed without a bound, and cut to 64 bits in the end
    private static long digestOf(PageGarden x, int states) {
        BigInteger hash = BigInteger.valueOf(43518);
        for (int value : valuesOf(x, states)) {
            hash = hash.multiply(BigInteger.valueOf(31)).add(BigInteger.valueOf(value));
        }
        return hash.longValue();
    }

    /** With a new object each time, so that none is asked more than 512 times. */
    private static void digest(String where, int states, Use way) {
        PageGarden x = new PageGarden();
        way.of(x);
        Check.due("digest " + where, x.digest(), digestOf(x, states));
    }

    private static void open(PageGarden x, int readers) {
        for (int reader = 0; reader < readers; reader++) {
            x.open();
        }
    }

    private static void putEnds(PageGarden x, int count) {
        x.begin();
        for (int put = 0; put < count; put++) {
            x.put(put == 0 ? 0 : 99, put == 0 ? -999 : 999);
        }
    }

    private static void fill(PageGarden x) {
        x.begin();
        Gardens.putSixLeaves(x);
        Gardens.fillSixLeaves(x);
        x.commit(3);
    }

    private static void digests() {
        for (int readers = 0; readers <= 4; readers++) {
            int count = readers;
            digest("with " + readers + " readers", readers, x -> open(x, count));
        }
        digest("with a fifth state dropped", 4, x -> {
            open(x, 4);
            x.close(3);
        });
        digest("with an empty draft", 1, x -> x.begin());
        digest("with one entry drafted", 2, x -> putEnds(x, 1));
        digest("with two entries drafted", 3, x -> putEnds(x, 2));
        digest("with a torn root", 3, x -> {
            putEnds(x, 1);
            x.commit(2);
        });
        digest("with one entry", 3, x -> {
            putEnds(x, 1);
            x.commit(3);
        });
        digest("with 24 entries", 4, x -> fill(x));
        digest("with 24 entries and a draft", 4, x -> {
            fill(x);
            x.begin();
            x.put(1, -1);
        });
        digest("with no bed to dig", 4, x -> Gardens.useUp(x, 0, 1, 2, 3, 4, 5));
        digest("with one byte of text", 0, x -> x.type(127));
        digest("with a full text", 0, x -> Check.type(x, "x".repeat(150)));
    }

    // ---- 512 calls

    // "An object is used for at most 512 calls": the last of them count as the first do.
    private static void manyCalls() {
        PageGarden x = new PageGarden();
        for (int turn = 1; turn <= 170; turn++) {
            int due = turn;
            Check.answer("begin", due, () -> x.begin());
            Check.answer("put", due == 1 ? NONE : due - 1, () -> x.put(7, due));
            Check.answer("commit", due == 1 ? 1 : 2, () -> x.commit(3));
        }
        Check.due("call 511", x.whole(11), 170);
        Check.due("call 512", x.root(0, 0), 171);
        PageGarden y = new PageGarden();
        y.begin();
        for (int call = 2; call <= 511; call++) {
            int due = call;
            Check.answer("call " + call, due == 2 ? NONE : due - 1, () -> y.put(7, due));
        }
        Check.answer("call 512", 3, () -> y.undo());
        PageGarden z = new PageGarden();
        for (int call = 1; call <= 511; call++) {
            int due = call;
            Check.answer("call " + call, 0, () -> due % 2 == 1 ? z.open() : z.close(0));
        }
        Check.answer("call 512", 3, () -> z.undo());
    }

    public static void main(String[] args) {
        fourStates();
        for (int pattern = 0; pattern < 1 << STEPS; pattern++) {
            ringOfStates(pattern);
        }
        whatSaves();
        whatDoesNotSave();
        textIsNotSaved();
        digests();
        manyCalls();
        Check.end("UndoEdgesTest");
    }
}
