/** The calls that README.md shows, in its order, answer what it says; who changes one changes the other. */
public final class ReadmeTest {
    private static void changesAndReaders(PageGarden garden) {
        Check.answer("begin()", 1, () -> garden.begin());
        Check.answer("bedsFor(50)", 2, () -> garden.bedsFor(50));
        Check.answer("put(50, 7)", -1000, () -> garden.put(50, 7));
        Check.answer("get(50)", -1000, () -> garden.get(50));
        Check.answer("drafted(50)", 7, () -> garden.drafted(50));
        Check.answer("open()", 0, () -> garden.open());
        Check.answer("commit(3)", 1, () -> garden.commit(3));
        Check.answer("get(50)", 7, () -> garden.get(50));
        Check.answer("read(0, 50)", -1000, () -> garden.read(0, 50));
        Check.answer("changedSince(0)", 1, () -> garden.changedSince(0));
        Check.answer("close(0)", 0, () -> garden.close(0));
    }

    private static void tornWriteAndUndo(PageGarden garden) {
        Check.answer("begin()", 2, () -> garden.begin());
        Check.answer("put(60, 8)", -1000, () -> garden.put(60, 8));
        Check.answer("commit(2)", -1000, () -> garden.commit(2));
        Check.answer("root(0, 2)", 0, () -> garden.root(0, 2));
        Check.answer("get(60)", -1000, () -> garden.get(60));
        Check.answer("undo()", 3, () -> garden.undo());
        Check.due("root 0 is whole again", garden.root(0, 2), 1);
        Check.due("the draft is back", garden.whole(8), 1);
        Check.answer("drafted(60)", 8, () -> garden.drafted(60));
        Check.answer("abort()", 2, () -> garden.abort());
    }

    private static void commandText(PageGarden garden) {
        for (char sign : "begin; put 70 9; commit 3;".toCharArray()) {
            garden.type(sign);
        }
        Check.answer("runCommands()", 3, () -> garden.runCommands());
        Check.answer("get(70)", 9, () -> garden.get(70));
        Check.answer("clearCommands()", 26, () -> garden.clearCommands());
        Check.answer("type('x')", 1, () -> garden.type('x'));
        Check.answer("runCommands() of x", -10, () -> garden.runCommands());
    }

    private static void refusedCalls(PageGarden garden) {
        Check.badArgument("put(100, 0)", garden, () -> garden.put(100, 0));
        Check.badState("put(50, 0)", garden, () -> garden.put(50, 0));
        Check.badIndex("close(4)", garden, () -> garden.close(4));
    }

    public static void main(String[] args) {
        PageGarden garden = new PageGarden();
        changesAndReaders(garden);
        tornWriteAndUndo(garden);
        commandText(garden);
        refusedCalls(garden);
        Check.end("ReadmeTest");
    }
}
