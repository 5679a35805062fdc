/** Promises 22, 23 and 24: type, clearCommands, runCommands. */
public final class CommandsTest {
    private static final int NONE = PageGarden.NONE;

    private static void type() {
        PageGarden x = new PageGarden();
        Check.badArgument("type(-1)", x, () -> x.type(-1));
        Check.badArgument("type(128)", x, () -> x.type(128));
        for (int length = 1; length <= 150; length++) {
            Check.due("type(32)", x.type(length % 128), length);
        }
        Check.badState("a byte too many", x, () -> x.type(0));
        Check.badArgument("type(128) with a full text", x, () -> x.type(128));
        Check.due("length", x.whole(14), 150);
        Check.due("clearCommands()", x.clearCommands(), 150);
        Check.due("length", x.whole(14), 0);
        Check.due("clearCommands() of nothing", x.clearCommands(), 0);
        Check.badState("neither is undoable", x, () -> x.undo());
        Check.due("type(127)", x.type(127), 1);
    }

    private static void fault(String text, int fault) {
        PageGarden x = new PageGarden();
        Check.type(x, text);
        long before = x.digest();
        Check.due("fault of '" + text + "'", x.runCommands(), -10 - fault);
        Check.due("a fault changes nothing: '" + text + "'", x.digest(), before);
    }

    private static void faults() {
        fault(";", 0);
        fault("  ;", 2);
        fault("5", 0);
        fault("begin", 5);
        fault("begin ", 6);
        fault("begi", 0);
        fault(" begi", 1);
        fault("begins;", 0);
        fault("begina;", 0);
        fault("beginz;", 0);
        fault("xegin;", 0);
        fault("b;", 0);
        fault("Begin;", 0);
        fault("beGin;", 0);
        fault("begin,", 5);
        fault("begin 1;", 6);
        fault("begin1;", 5);
        fault("begin;;", 6);
        fault("begin; put", 10);
        fault("begin; pu", 7);
        fault("begin; pu ", 7);
        fault("begin; putt 1 2;", 7);
        fault("put;", 3);
        fault("put ;", 4);
        fault("put 1;", 5);
        fault("put 1 ;", 6);
        fault("put 1 2", 7);
        fault("put 1 2 ", 8);
        fault("put 1 2 3;", 8);
        fault("put 1", 5);
        fault("put 1 ", 6);
        fault("put1 2;", 3);
        fault("put 1 x;", 6);
        fault("put 1x 2;", 5);
        fault("put 1 -2;", 6);
        fault("put 1234 2;", 7);
        fault("put 1 0002;", 9);
        fault("drop 0001;", 8);
        fault("drop 1\t;", 6);
        fault("remove 1;", 0);
        fault("commit;", 6);
        fault("commit 3", 8);
        fault("close\n0;", 5);
        fault("open 0;", 5);
        fault("abort; abort", 12);
        fault("abort;abort ;x", 13);
        fault("{;", 0);
        fault("`;", 0);
        fault("put 1 :;", 6);
        fault("put 1 /;", 6);
        fault("zzz", 0);
        fault("begin; begin; \u0000", 14);
    }

    private static void textsWithoutAFault() {
        PageGarden x = new PageGarden();
        Check.due("an empty text", x.runCommands(), 0);
        Check.due("undo() of it", x.undo(), 0);
        Check.due("spaces alone", Check.run(x, "   "), 0);
        Check.due("undo() of them", x.undo(), 0);
        Check.due("spaces where they may stand", Check.run(x, "  begin  ;  put  007   0 ;commit   003  ;  "), 3);
        Check.due("get(7)", x.get(7), 0);
        Check.due("the text stays", x.whole(14), 43);
        Check.due("undo() of all", x.undo(), 0);
        Check.due("get(7)", x.get(7), NONE);
        Check.due("the text is not undone", x.whole(14), 43);
        Check.due("it runs again", x.runCommands(), 3);
        Check.due("get(7)", x.get(7), 0);
    }

    private static void aFaultIsForgotten() {
        PageGarden x = new PageGarden();
        Check.due("a fault in a number", Check.run(x, "put 1 x;"), -16);
        Check.due("a fault in the last command alone", Check.run(x, "open;begin;drop"), -25);
        Check.due("nothing of it was carried out", x.whole(7) + x.whole(8), 0);
        Check.due("a text without a fault behind them", Check.run(x, "begin;put 1 2;"), 2);
        Check.due("drafted(1)", x.drafted(1), 2);
        Check.due("a last command is carried out once", Check.run(x, "open;"), 1);
        Check.due("open readers", x.whole(7), 1);
    }

    private static void everyCommand() {
        PageGarden x = new PageGarden();
        String text = "begin;put 1 10;put 2 999;drop 1;commit 3;open;begin;put 2 5;abort;open;close 0;";
        Check.due("all of them", Check.run(x, text), 11);
        Check.due("get(1)", x.get(1), NONE);
        Check.due("get(2)", x.get(2), 999);
        Check.reader("closed", x, 0, NONE, NONE, NONE);
        Check.reader("open", x, 1, 2, 1, 1);
        Check.due("draft", x.whole(8), 0);
        Check.due("one state is saved", x.undo(), 0);
        Check.whole("as new", x, 31, 1, 0, 0, 1, 0, 0, 0, 0, 0, 0, 0, 0, 0, text.length());
    }

    private static void commandsThatAreRefused() {
        PageGarden x = new PageGarden();
        Check.due("put without a draft", Check.run(x, "put 1 1;begin;"), 0);
        Check.due("draft", x.whole(8), 0);
        Check.due("it saves a state all the same", x.undo(), 0);
        Check.due("a key out of range", Check.run(x, "begin;put 99 1;put 100 1;put 3 3;"), 2);
        Check.due("drafted(99)", x.drafted(99), 1);
        Check.due("drafted(3)", x.drafted(3), NONE);
        Check.due("a second begin", Check.run(x, "begin;abort;"), 0);
        Check.due("a key that is not there", Check.run(x, "drop 99;drop 99;abort;"), 1);
        Check.due("steps out of range", Check.run(x, "commit 4;commit 3;"), 0);
        Check.due("a reader out of range", Check.run(x, "open;close 4;open;"), 1);
        Check.due("a reader that is not open", Check.run(x, "close 0;close 0;"), 1);
        Check.due("a fifth reader", Check.run(x, "open;open;open;open;open;"), 4);
        Check.due("commit and a second one", Check.run(x, "commit 3;commit 3;"), 1);
        Check.due("abort without a draft", Check.run(x, "abort;"), 0);
        Check.due("whole commits", x.whole(11), 1);
        Check.due("a lost draft counts as carried out", Check.run(x, "begin;put 1 1;commit 0;begin;"), 4);
    }

    private static void aFullText() {
        PageGarden x = new PageGarden();
        String text = "begin;" + "abort;begin;".repeat(12);
        Check.type(x, text);
        Check.due("150 bytes", x.runCommands(), 25);
        Check.due("draft", x.whole(8), 1);
    }

    public static void main(String[] args) {
        type();
        faults();
        textsWithoutAFault();
        aFaultIsForgotten();
        everyCommand();
        commandsThatAreRefused();
        aFullText();
        Check.end("CommandsTest");
    }
}
