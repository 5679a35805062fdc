import java.util.ArrayList;
import java.util.List;

/**
 * Exceptions: a call that throws changes nothing, of several exceptions the one that is listed first is
 * thrown, and NONE is returned only if none applies.
 */
public final class RefusalsTest {
    private static final int NONE = PageGarden.NONE;
    private static final String COMMANDS = "abort;begin;put 5 5;commit 3;open;";

    private interface Use {
        void of(PageGarden garden);
    }

    // ---- the first one that is listed

    private static void ofANewObject() {
        PageGarden x = new PageGarden();
        Check.badArgument("put: key, before no draft", x, () -> x.put(100, 0));
        Check.badArgument("put: value, before no draft", x, () -> x.put(0, 1000));
        Check.badArgument("put: value, before no draft", x, () -> x.put(99, -1000));
        Check.badState("put: no draft", x, () -> x.put(99, 999));
        Check.badArgument("remove: key, before no draft", x, () -> x.remove(-1));
        Check.badState("remove: no draft", x, () -> x.remove(0));
        Check.badArgument("commit: steps, before no draft", x, () -> x.commit(4));
        Check.badArgument("commit: steps, before no draft", x, () -> x.commit(-1));
        Check.badState("commit: no draft", x, () -> x.commit(0));
        Check.badState("commit: no draft", x, () -> x.commit(3));
        Check.badState("abort: no draft", x, () -> x.abort());
        Check.badIndex("close: reader, before not open", x, () -> x.close(4));
        Check.badState("close: not open", x, () -> x.close(3));
        Check.badArgument("drafted: key, before no draft", x, () -> x.drafted(100));
        Check.badState("drafted: no draft, before NONE", x, () -> x.drafted(99));
        Check.badArgument("bedsFor: key, before no draft", x, () -> x.bedsFor(-1));
        Check.badState("bedsFor: no draft", x, () -> x.bedsFor(0));
        Check.badArgument("reason: key, before no draft", x, () -> x.reason(100));
        Check.badState("reason: no draft", x, () -> x.reason(99));
        Check.badState("undo: nothing is saved", x, () -> x.undo());
    }

    private static void ofReaders() {
        PageGarden x = new PageGarden();
        Check.badIndex("read: reader, before key and not open", x, () -> x.read(4, 100));
        Check.badIndex("read: reader, before key and not open", x, () -> x.read(-1, -1));
        Check.badIndex("read: reader, before not open", x, () -> x.read(4, 0));
        Check.badArgument("read: key, before not open", x, () -> x.read(3, 100));
        Check.badState("read: not open, before NONE", x, () -> x.read(3, 99));
        Check.badIndex("neededWithout: reader, before not open", x, () -> x.neededWithout(4));
        Check.badState("neededWithout: not open", x, () -> x.neededWithout(3));
        Check.badIndex("changedSince: reader, before not open", x, () -> x.changedSince(-1));
        Check.badState("changedSince: not open", x, () -> x.changedSince(0));
        Check.badIndex("reader: reader, before what", x, () -> x.reader(4, 3));
        Check.badIndex("reader: reader, before what", x, () -> x.reader(-1, -1));
        Check.badArgument("reader: what, before NONE", x, () -> x.reader(0, 3));
        Check.badArgument("reader: what, before NONE", x, () -> x.reader(3, -1));
    }

    private static void ofRows() {
        PageGarden x = new PageGarden();
        Check.badIndex("entry: rank, before what", x, () -> x.entry(0, 4));
        Check.badIndex("entry: rank", x, () -> x.entry(0, 0));
        Check.committed(x, 7);
        Check.badIndex("entry: rank, before what", x, () -> x.entry(1, 4));
        Check.badIndex("entry: rank, before what", x, () -> x.entry(-1, -1));
        Check.badArgument("entry: what", x, () -> x.entry(0, 4));
        Check.badIndex("root: root, before what", x, () -> x.root(2, 4));
        Check.badIndex("root: root, before what", x, () -> x.root(-1, -1));
        Check.badArgument("root: what", x, () -> x.root(1, 4));
        Check.badIndex("bed: bed, before what", x, () -> x.bed(32, 6));
        Check.badIndex("bed: bed, before what", x, () -> x.bed(-1, -1));
        Check.badArgument("bed: what", x, () -> x.bed(31, 6));
    }

    private static void ofFullOnes() {
        PageGarden x = new PageGarden();
        Check.type(x, "x".repeat(150));
        Check.badArgument("type: value, before a full text", x, () -> x.type(128));
        Check.badArgument("type: value, before a full text", x, () -> x.type(-1));
        Check.badState("type: a full text", x, () -> x.type(127));
        x.begin();
        Gardens.putSixLeaves(x);
        Check.badArgument("put: value, before too many leaves", x, () -> x.put(55, 1000));
        Check.badArgument("put: key, before too many leaves", x, () -> x.put(100, 0));
        Check.badState("put: too many leaves", x, () -> x.put(55, 999));
        Check.badArgument("remove: key, before a key that is not there", x, () -> x.remove(100));
        Check.badState("remove: a key that is not there", x, () -> x.remove(55));
        Check.badState("begin: a draft", x, () -> x.begin());
        PageGarden y = Gardens.withBeds(0, 1, 2, 3, 4, 5);
        y.begin();
        Check.badArgument("put: key, before a bed that cannot be dug", y, () -> y.put(-1, 0));
        Check.badState("put: a bed that cannot be dug", y, () -> y.put(1, 0));
        Check.badArgument("remove: key, before a bed that cannot be dug", y, () -> y.remove(-1));
        Check.badState("remove: a bed that cannot be dug", y, () -> y.remove(1));
    }

    // ---- a call that throws changes nothing

    private static List<Check.Call> wrongCalls(PageGarden x) {
        List<Check.Call> calls = new ArrayList<>();
        calls.add(() -> x.put(-1, 0));
        calls.add(() -> x.put(100, 0));
        calls.add(() -> x.put(5, 1000));
        calls.add(() -> x.put(5, -1000));
        calls.add(() -> x.remove(-1));
        calls.add(() -> x.remove(100));
        calls.add(() -> x.commit(-1));
        calls.add(() -> x.commit(4));
        calls.add(() -> x.close(-1));
        calls.add(() -> x.close(4));
        calls.add(() -> x.get(100));
        calls.add(() -> x.drafted(100));
        calls.add(() -> x.read(0, 100));
        calls.add(() -> x.read(4, 0));
        calls.add(() -> x.entry(99, 0));
        calls.add(() -> x.entry(0, 4));
        calls.add(() -> x.root(2, 0));
        calls.add(() -> x.root(0, 4));
        calls.add(() -> x.reader(4, 0));
        calls.add(() -> x.reader(0, 3));
        calls.add(() -> x.bed(32, 0));
        calls.add(() -> x.bed(0, 6));
        calls.add(() -> x.whole(15));
        calls.add(() -> x.bedsFor(100));
        calls.add(() -> x.reason(100));
        calls.add(() -> x.neededWithout(4));
        calls.add(() -> x.changedSince(4));
        calls.add(() -> x.type(128));
        return calls;
    }

    /** All that is kept but cannot be seen at once: the saved states and the bytes of the text. */
    private static String unwound(PageGarden x) {
        StringBuilder row = new StringBuilder();
        row.append(x.digest());
        for (int undone = 0; undone < 5; undone++) {
            row.append(' ').append(Check.answerOf(() -> x.undo())).append(' ').append(x.digest());
        }
        row.append(' ').append(x.runCommands()).append(' ').append(x.digest());
        row.append(' ').append(Check.answerOf(() -> x.undo())).append(' ').append(x.digest());
        return row.toString();
    }

    /** The same garden twice: only one of them is asked what it has to refuse. */
    private static void twins(String where, Use way, List<Check.Call> ofTheState, PageGarden refusing) {
        PageGarden other = new PageGarden();
        way.of(other);
        List<Check.Call> calls = wrongCalls(refusing);
        calls.addAll(ofTheState);
        for (int at = 0; at < calls.size(); at++) {
            String answer = Check.answerOf(calls.get(at));
            Check.due(where + ", call " + at + " throws", answer.startsWith("throws.") ? 1 : 0, 1);
        }
        Check.same(where + ": all behind them", unwound(refusing), unwound(other));
    }

    private static void quiet(PageGarden x) {
        Check.type(x, COMMANDS);
        Check.committed(x, 1, 2, 3, 4, 5);
        x.open();
    }

    private static void withoutADraft() {
        PageGarden x = new PageGarden();
        quiet(x);
        twins("without a draft", RefusalsTest::quiet, List.of(() -> x.put(5, 5), () -> x.remove(5), () -> x.commit(0),
                () -> x.commit(3), () -> x.abort(), () -> x.close(1), () -> x.drafted(5), () -> x.read(1, 5),
                () -> x.bedsFor(5), () -> x.reason(5), () -> x.neededWithout(1), () -> x.changedSince(1)), x);
    }

    private static void sixLeaves(PageGarden x) {
        Check.type(x, COMMANDS + " ".repeat(150 - COMMANDS.length()));
        for (int reader = 0; reader < 4; reader++) {
            x.open();
        }
        x.begin();
        Gardens.putSixLeaves(x);
    }

    private static void withADraftOfSixLeaves() {
        PageGarden x = new PageGarden();
        sixLeaves(x);
        twins("with six leaves", RefusalsTest::sixLeaves, List.of(() -> x.begin(), () -> x.put(55, 5),
                () -> x.remove(55), () -> x.open(), () -> x.type(0), () -> x.type(127)), x);
    }

    private static void noBeds(PageGarden x) {
        Check.type(x, COMMANDS);
        Gardens.useUp(x, 0, 1, 2, 3, 4, 5);
        x.begin();
    }

    private static void withoutBeds() {
        PageGarden x = new PageGarden();
        noBeds(x);
        twins("without a bed", RefusalsTest::noBeds, List.of(() -> x.begin(), () -> x.put(1, 5), () -> x.put(6, 5),
                () -> x.remove(1), () -> x.remove(4), () -> x.remove(6)), x);
    }

    // ---- NONE only if no exception applies

    private static void none() {
        PageGarden x = new PageGarden();
        Check.answer("get", NONE, () -> x.get(0));
        Check.answer("a reader that is not open", NONE, () -> x.reader(3, 2));
        Check.answer("a root without a bed", NONE, () -> x.root(1, 1));
        Check.answer("a wild bed's kind", NONE, () -> x.bed(31, 1));
        Check.answer("a wild bed's size", NONE, () -> x.bed(31, 2));
        Check.answer("a wild bed's count", NONE, () -> x.bed(31, 3));
        Check.answer("open", 0, () -> x.open());
        Check.answer("read", NONE, () -> x.read(0, 0));
        x.begin();
        Check.answer("drafted", NONE, () -> x.drafted(0));
        Check.answer("put of a key that had no value", NONE, () -> x.put(0, 0));
        Check.answer("put of a key that had 0", 0, () -> x.put(0, 0));
        Check.answer("a lost draft", NONE, () -> x.commit(2));
    }

    public static void main(String[] args) {
        ofANewObject();
        ofReaders();
        ofRows();
        ofFullOnes();
        withoutADraft();
        withADraftOfSixLeaves();
        withoutBeds();
        none();
        Check.end("RefusalsTest");
    }
}
