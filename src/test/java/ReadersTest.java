/** Promises 7, 8, 11, 14, 20 and 21: open, close, read, reader, neededWithout, changedSince. */
public final class ReadersTest {
    private static final int NONE = PageGarden.NONE;

    private static void open() {
        PageGarden x = new PageGarden();
        for (int reader = 0; reader < 4; reader++) {
            Check.due("open()", x.open(), reader);
            Check.due("open readers", x.whole(7), reader + 1);
        }
        Check.badState("a fifth reader", x, () -> x.open());
        Check.due("close(2)", x.close(2), 0);
        Check.due("close(1)", x.close(1), 0);
        Check.committed(x, 7);
        Check.due("the lowest closed reader is opened", x.open(), 1);
        Check.due("then the next one", x.open(), 2);
        Check.badState("a fifth reader", x, () -> x.open());
        Check.reader("opened at first", x, 0, 1, 0, 0);
        Check.reader("opened later", x, 1, 2, 1, 1);
        Check.due("undo() of open", x.undo(), 3);
        Check.reader("not open", x, 2, NONE, NONE, NONE);
    }

    private static void readerStaysWithItsRoot() {
        PageGarden x = new PageGarden();
        Check.committed(x, 1, 2, 3, 4, 5);
        x.begin();
        x.put(6, 6);
        Check.due("open with a draft", x.open(), 0);
        x.put(1, -1);
        x.remove(2);
        Check.due("changed since, before the commit", x.changedSince(0), 0);
        x.commit(3);
        Check.committed(x, 7, 8, 9);
        x.begin();
        x.put(3, 33);
        x.commit(1);
        int[] old = {NONE, 1, 2, 3, 4, 5, NONE, NONE, NONE, NONE};
        for (int key = 0; key < old.length; key++) {
            Check.due("read(0, " + key + ")", x.read(0, key), old[key]);
        }
        Check.due("read(0, 99)", x.read(0, 99), NONE);
        Check.reader("its values", x, 0, 2, 1, 5);
        // 1 is another one, 2 is gone, 6 to 9 have come, 3 was lost.
        Check.due("changedSince(0)", x.changedSince(0), 6);
        Check.due("the needed count", x.whole(4), 2);
        Check.due("open()", x.open(), 1);
        Check.due("changedSince(1)", x.changedSince(1), 0);
    }

    private static void changedSince() {
        PageGarden x = new PageGarden();
        Check.badIndex("changedSince(-1)", x, () -> x.changedSince(-1));
        Check.badIndex("changedSince(4)", x, () -> x.changedSince(4));
        Check.badState("changedSince(3)", x, () -> x.changedSince(3));
        x.open();
        Check.due("of two empty roots", x.changedSince(0), 0);
        Check.committed(x, 0, 99);
        Check.due("the first and the last key have come", x.changedSince(0), 2);
        x.begin();
        x.put(0, 1);
        x.put(0, 0);
        x.commit(3);
        Check.due("a value that is the same again", x.changedSince(0), 2);
        x.begin();
        x.remove(0);
        x.commit(3);
        Check.due("a key that has gone again", x.changedSince(0), 1);
    }

    private static void close() {
        PageGarden x = new PageGarden();
        Check.badIndex("close(-1)", x, () -> x.close(-1));
        Check.badIndex("close(4)", x, () -> x.close(4));
        Check.badState("close(0)", x, () -> x.close(0));
        x.open();
        x.open();
        for (int key = 0; key < 3; key++) {
            Check.committed(x, key);
        }
        x.open();
        Check.committed(x, 3);
        Check.whole("nothing can be dug", x, 23, 2, 7, 0, 1);
        Check.due("close(0), with another reader on its root", x.close(0), 0);
        Check.badState("close(0) again", x, () -> x.close(0));
        Check.due("neededWithout(1)", x.neededWithout(1), 4);
        Check.due("neededWithout(2)", x.neededWithout(2), 1);
        Check.due("close(1)", x.close(1), 5);
        Check.whole("what it kept can be dug", x, 23, 2, 7, 5, 4);
        Check.due("close(2): the roots keep the rest", x.close(2), 0);
        Check.due("undo()", x.undo(), 3);
        Check.reader("open again", x, 2, 4, 5, 3);
    }

    private static void neededWithout() {
        PageGarden x = new PageGarden();
        Check.badIndex("neededWithout(-1)", x, () -> x.neededWithout(-1));
        Check.badIndex("neededWithout(4)", x, () -> x.neededWithout(4));
        Check.badState("neededWithout(0)", x, () -> x.neededWithout(0));
        x.open();
        Check.committed(x, 1);
        x.open();
        Check.committed(x, 2);
        Check.committed(x, 3);
        Check.due("without the oldest", x.neededWithout(0), 2);
        Check.due("without another one", x.neededWithout(1), 1);
        x.close(1);
        Check.due("without the last one: the lesser root", x.neededWithout(0), 3);
        x.begin();
        x.put(4, 4);
        x.commit(1);
        Check.due("without the last one: a torn root does not count", x.neededWithout(0), 4);
        Check.due("it changes nothing", x.whole(4), 1);
    }

    private static void readThatIsRefused() {
        PageGarden x = new PageGarden();
        Check.badIndex("read(-1, 100)", x, () -> x.read(-1, 100));
        Check.badIndex("read(4, 0)", x, () -> x.read(4, 0));
        Check.badArgument("read(0, 100) of a closed reader", x, () -> x.read(0, 100));
        Check.badArgument("read(0, -1) of a closed reader", x, () -> x.read(0, -1));
        Check.badState("read(0, 0) of a closed reader", x, () -> x.read(0, 0));
        x.open();
        Check.badState("read(1, 0)", x, () -> x.read(1, 0));
        Check.badArgument("read(0, 100)", x, () -> x.read(0, 100));
        Check.due("read(0, 0)", x.read(0, 0), NONE);
    }

    private static void readerThatIsRefused() {
        PageGarden x = new PageGarden();
        Check.badIndex("reader(-1, 3)", x, () -> x.reader(-1, 3));
        Check.badIndex("reader(4, 0)", x, () -> x.reader(4, 0));
        Check.badArgument("reader(0, -1)", x, () -> x.reader(0, -1));
        Check.badArgument("reader(0, 3)", x, () -> x.reader(0, 3));
        x.open();
        Check.badArgument("reader(0, 3) that is open", x, () -> x.reader(0, 3));
    }

    public static void main(String[] args) {
        open();
        readerStaysWithItsRoot();
        changedSince();
        close();
        neededWithout();
        readThatIsRefused();
        readerThatIsRefused();
        Check.end("ReadersTest");
    }
}
