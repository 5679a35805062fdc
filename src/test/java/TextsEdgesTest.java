/** The edges of the texts of commands: promises 22 to 24, and the terms they stand on. */
public final class TextsEdgesTest {
    private static final int NONE = PageGarden.NONE;
    private static final int NO_FAULT = -1;
    private static final String[] WORDS = {"begin", "put", "drop", "commit", "abort", "open", "close"};
    private static final int[] NUMBERS = {0, 2, 1, 1, 0, 0, 1};

    private static void fault(String text, int fault) {
        PageGarden x = new PageGarden();
        Check.type(x, text);
        long before = x.digest();
        int got = x.runCommands();
        if (fault == NO_FAULT) {
            Check.due("'" + text + "' has no fault", got >= 0 ? 1 : 0, 1);
            Check.answer("'" + text + "' saves a state", 0, () -> x.undo());
        } else {
            Check.due("fault of '" + text + "'", got, -10 - fault);
            Check.badState("'" + text + "' saves no state", x, () -> x.undo());
        }
        Check.due("digest behind '" + text + "'", x.digest(), before);
    }

    // ---- the length

    // "The command text has at most 150 bytes."
    private static void lengths() {
        PageGarden x = new PageGarden();
        for (int length = 1; length <= 150; length++) {
            int due = length;
            Check.answer("byte " + length, due, () -> x.type(due - 1 < 128 ? due - 1 : 0));
        }
        Check.badState("byte 151", x, () -> x.type(32));
        Check.due("length", x.whole(14), 150);
        Check.answer("clearCommands()", 150, () -> x.clearCommands());
        Check.answer("clearCommands() again", 0, () -> x.clearCommands());
        for (int length = 1; length <= 149; length++) {
            x.type(0);
        }
        Check.answer("byte 150", 150, () -> x.type(127));
        Check.badState("byte 151", x, () -> x.type(127));
        Check.badState("again", x, () -> x.type(0));
        Check.answer("clearCommands()", 150, () -> x.clearCommands());
        Check.answer("one byte", 1, () -> x.type(0));
        Check.answer("clearCommands() of one byte", 1, () -> x.clearCommands());
    }

    // What was in the text before does not come back, wherever the new text ends.
    private static void clearedTexts() {
        PageGarden x = new PageGarden();
        Check.due("open;open;", Check.run(x, "open;open;"), 2);
        Check.due("open", Check.run(x, "open"), -14);
        Check.due("open;", Check.run(x, "open;"), 1);
        Check.due("nothing", Check.run(x, ""), 0);
        Check.due("a space", Check.run(x, " "), 0);
        Check.due("three readers", x.whole(7), 3);
    }

    private static void longTexts() {
        String full = "begin;" + "abort;begin;".repeat(12);
        fault(full, NO_FAULT);
        fault(full.substring(0, 149), 149);
        fault(full.substring(0, 149) + ",", 149);
        fault(full.substring(0, 149) + " ", 150);
        fault(full.substring(0, 148) + ";;", 144);
        fault(full.substring(0, 144) + " open;", NO_FAULT);
        fault(full.substring(0, 144) + " open ", 150);
        fault(full.substring(0, 144) + "commit", 150);
        fault(full.substring(0, 144) + "drop 1", 150);
        fault(full.substring(0, 144) + "drop  ", 150);
        fault(full.substring(0, 144) + "openin", 144);
        fault(full.substring(0, 144) + "      ", NO_FAULT);
        fault(full.substring(0, 144) + "     x", 149);
        fault(" ".repeat(150), NO_FAULT);
        fault(" ".repeat(149), NO_FAULT);
        fault(" ".repeat(149) + ";", 149);
        fault(" ".repeat(145) + "open;", NO_FAULT);
        fault(" ".repeat(146) + "open", 150);
        fault("x".repeat(150), 0);
        fault("open" + " ".repeat(145) + ";", NO_FAULT);
        fault("open" + " ".repeat(146), 150);
        fault("drop" + " ".repeat(144) + "1;", NO_FAULT);
        fault("drop" + " ".repeat(143) + "100", 150);
        PageGarden x = new PageGarden();
        Check.due("23 commands in 150 bytes", Check.run(x, "open;close 0;".repeat(11) + "open;  "), 23);
        PageGarden y = new PageGarden();
        Check.due("the last of 150 bytes counts", Check.run(y, "begin;" + "put 9 9;".repeat(18)), 19);
        Check.due("text", y.whole(14), 150);
    }

    // ---- words

    // "A word that is not one of these is at fault with its first byte, found when the word is complete"
    private static void words() {
        for (int at = 0; at < WORDS.length; at++) {
            String word = WORDS[at];
            String rest = " 1".repeat(NUMBERS[at]) + ";";
            int length = word.length();
            char first = word.charAt(0);
            char last = word.charAt(length - 1);
            fault(word + rest, NO_FAULT);
            fault("  " + word + rest, NO_FAULT);
            fault(word, length);
            fault(word.substring(0, length - 1), 0);
            fault(word.substring(0, length - 1) + rest, 0);
            fault(word.substring(1) + rest, 0);
            fault(word + last + rest, 0);
            fault("a" + word + rest, 0);
            fault(word + "a" + rest, 0);
            fault(word + "z" + rest, 0);
            fault(word + "a", 0);
            fault(word.substring(0, length - 1) + (char) (last + 1) + rest, 0);
            fault(word.substring(0, length - 1) + (char) (last - 1) + rest, 0);
            fault((char) (first + 1) + word.substring(1) + rest, 0);
            fault((char) (first - 1) + word.substring(1) + rest, 0);
            fault((char) (first - 32) + word.substring(1) + rest, 0);
            fault(word.substring(0, 1) + (char) (word.charAt(1) - 32) + word.substring(2) + rest, 0);
            fault(word.substring(0, 1) + " " + word.substring(1) + rest, 0);
            fault("open; " + word.substring(0, length - 1) + rest, 6);
            fault(word + "`" + rest, length);
            fault(word + "{" + rest, length);
            fault(word + word + rest, 0);
        }
        fault("remove 1;", 0);
        fault("a", 0);
        fault("z", 0);
        fault("`", 0);
        fault("{", 0);
        fault("A", 0);
        fault("Z", 0);
    }

    // A word that is none of these is found even where a byte behind it cannot stand, or nothing is there.
    private static void completeWords() {
        for (int value = 0; value < 128; value++) {
            boolean isLetter = value >= 'a' && value <= 'z';
            fault(" beg" + (char) value, 1);
            fault(" open" + (char) value, isLetter ? 1 : value == ' ' ? 6 : value == ';' ? NO_FAULT : 5);
            fault(" " + (char) value, isLetter ? 1 : value == ' ' ? NO_FAULT : 1);
            fault("" + (char) value, value == ' ' ? NO_FAULT : 0);
        }
    }

    // ---- numbers, spaces and semicolons

    // "each of one to three digits (zeros in front are allowed; a fourth digit cannot stand)"
    private static void digits() {
        fault("drop ;", 5);
        fault("drop 1;", NO_FAULT);
        fault("drop 12;", NO_FAULT);
        fault("drop 123;", NO_FAULT);
        fault("drop 1234;", 8);
        fault("drop 12345;", 8);
        fault("drop 0;", NO_FAULT);
        fault("drop 00;", NO_FAULT);
        fault("drop 000;", NO_FAULT);
        fault("drop 0000;", 8);
        fault("drop 0001;", 8);
        fault("drop 001;", NO_FAULT);
        fault("drop 999;", NO_FAULT);
        fault("drop 1000;", 8);
        fault("drop /;", 5);
        fault("drop 0/;", 6);
        fault("drop :;", 5);
        fault("drop 9:;", 6);
        fault("drop 99/;", 7);
        fault("drop 999:;", 8);
        fault("drop -1;", 5);
        fault("drop +1;", 5);
        fault("drop 1 2;", 7);
        fault("put 1 2;", NO_FAULT);
        fault("put 123 456;", NO_FAULT);
        fault("put 1234 5;", 7);
        fault("put 123 4567;", 11);
        fault("put 12345;", 7);
        fault("put 1;", 5);
        fault("put 1 ;", 6);
        fault("put  ;", 5);
        fault("put 1 2 3;", 8);
        fault("put 1 2x;", 7);
        fault("put 1 x;", 6);
        fault("put x;", 4);
        fault("put 1 -1;", 6);
        fault("open 1;", 5);
        fault("open1;", 4);
        fault("begin 1;", 6);
        fault("abort 1;", 6);
    }

    // "with at least one space (byte 32) in front"; "in front of a command, in front of a semicolon, and at the end"
    private static void spaces() {
        fault("drop1;", 4);
        fault("drop 1;", NO_FAULT);
        fault("drop  1;", NO_FAULT);
        fault("drop   1;", NO_FAULT);
        fault("put1 2;", 3);
        fault("put 1 2;", NO_FAULT);
        fault("put  1  2;", NO_FAULT);
        fault("put 12;", 6);
        fault(" open;", NO_FAULT);
        fault("  open;", NO_FAULT);
        fault("open ;", NO_FAULT);
        fault("open  ;", NO_FAULT);
        fault("drop 1 ;", NO_FAULT);
        fault("drop 1  ;", NO_FAULT);
        fault("open; ", NO_FAULT);
        fault("open;  ", NO_FAULT);
        fault("open; open;", NO_FAULT);
        fault("open;open;", NO_FAULT);
        fault("op en;", 0);
        fault("drop 1 1;", 7);
        for (int value : new int[] {0, 9, 10, 13, 31, 33, 127}) {
            char other = (char) value;
            fault(other + "open;", 0);
            fault("open" + other + ";", 4);
            fault("open;" + other, 5);
            fault("drop" + other + "1;", 4);
            fault("drop 1" + other + ";", 6);
            fault("put 1" + other + "2;", 5);
        }
    }

    private static void semicolons() {
        fault("open;", NO_FAULT);
        fault("open:", 4);
        fault("open<", 4);
        fault("open", 4);
        fault("open ", 5);
        fault("open  ", 6);
        fault("open open;", 5);
        fault("open;;", 5);
        fault("open; ;", 6);
        fault(";", 0);
        fault(" ;", 1);
        fault(";open;", 0);
        fault("drop 1", 6);
        fault("drop 1 ", 7);
        fault("drop 1:", 6);
        fault("drop 1<", 6);
        fault("drop 123", 8);
        fault("drop", 4);
        fault("drop ", 5);
        fault("put 1", 5);
        fault("put 1 ", 6);
        fault("put 1 2", 7);
        fault("", NO_FAULT);
        fault(" ", NO_FAULT);
        fault("  ", NO_FAULT);
    }

    // Of several faults the first one that is found counts.
    private static void firstFault() {
        fault("open;x;y;", 5);
        fault("op;x", 0);
        fault("drop x;op", 5);
        fault("open,;", 4);
        fault("op,", 0);
        fault("open;drop 1234 y", 13);
    }

    /** Every byte in every place, and every beginning, of a text without a fault. */
    private static void everyByte(String text) {
        for (int place = 0; place < text.length(); place++) {
            String before = text.substring(0, place);
            fault(before, ReferenceGarden.fault(before));
            for (int value = 0; value < 128; value++) {
                String other = before + (char) value + text.substring(place + 1);
                fault(other, ReferenceGarden.fault(other));
            }
        }
    }

    // ---- runs

    private static void ran(String text, int count, int readers, int drafts) {
        PageGarden x = new PageGarden();
        Check.due("'" + text + "'", Check.run(x, text), count);
        Check.due("open readers behind '" + text + "'", x.whole(7), readers);
        Check.due("drafts behind '" + text + "'", x.whole(8), drafts);
        Check.due("the text stays", x.whole(14), text.length());
        Check.answer("one state is saved", 0, () -> x.undo());
        Check.due("the text stays behind undo()", x.whole(14), text.length());
        Check.due("readers behind undo()", x.whole(7), 0);
        Check.due("drafts behind undo()", x.whole(8), 0);
        Check.answer("it runs again", count, () -> x.runCommands());
        Check.due("with the same end", x.whole(7) * 2 + x.whole(8), readers * 2 + drafts);
    }

    // "until one of them would throw an exception .. those before it stay done, and they alone count"
    private static void refusedCommands() {
        ran("", 0, 0, 0);
        ran("abort;open;", 0, 0, 0);
        ran("open;abort;open;", 1, 1, 0);
        ran("open;open;abort;", 2, 2, 0);
        ran("open;open;", 2, 2, 0);
        ran("begin;begin;", 1, 0, 1);
        ran("open;open;open;open;open;begin;", 4, 4, 0);
        ran("close 0;begin;", 0, 0, 0);
        ran("open;close 0;close 0;begin;", 2, 0, 0);
        ran("open;close 1;begin;", 1, 1, 0);
        ran("put 1 1;", 0, 0, 0);
        ran("begin;drop 1;open;", 1, 0, 1);
        ran("begin;put 1 1;drop 1;drop 1;open;", 3, 0, 1);
        ran("commit 3;open;", 0, 0, 0);
        ran("begin;commit 3;commit 3;", 2, 0, 0);
        ran("begin;abort;abort;", 2, 0, 0);
    }

    // "(That a number is out of its range is no fault.)"
    private static void numbersOutOfRange() {
        ran("begin;put 99 999;open;", 3, 1, 1);
        ran("begin;put 100 999;open;", 1, 0, 1);
        ran("begin;put 999 0;open;", 1, 0, 1);
        ran("begin;put 0 0;drop 0;open;", 4, 1, 1);
        ran("begin;put 99 0;drop 99;open;", 4, 1, 1);
        ran("begin;put 99 0;drop 100;open;", 2, 0, 1);
        ran("begin;commit 3;open;", 3, 1, 0);
        ran("begin;commit 4;open;", 1, 0, 1);
        ran("begin;commit 999;open;", 1, 0, 1);
        ran("open;open;open;open;close 3;begin;", 6, 3, 1);
        ran("open;open;open;open;close 4;begin;", 4, 4, 0);
        ran("open;close 000;begin;", 3, 0, 1);
        ran("open;open;close 001;begin;", 4, 1, 1);
    }

    private static void whatTheyDo() {
        PageGarden x = new PageGarden();
        Check.due("put", Check.run(x, "begin;put 000 0;put 099 999;put 50 5;put 5 050;commit 003;"), 6);
        Check.due("get(0)", x.get(0), 0);
        Check.due("get(99)", x.get(99), 999);
        Check.due("get(50)", x.get(50), 5);
        Check.due("get(5)", x.get(5), 50);
        Check.due("drop and abort", Check.run(x, "begin;drop 50;abort;begin;drop 5;"), 5);
        Check.due("drafted(5)", x.drafted(5), NONE);
        Check.due("drafted(50)", x.drafted(50), 5);
        for (int steps = 0; steps <= 3; steps++) {
            PageGarden y = new PageGarden();
            Check.due("commit " + steps, Check.run(y, "begin;put 1 1;commit " + steps + ";"), 3);
            Check.root("behind commit " + steps, y, 1, steps < 2 ? 0 : 2, steps < 2 ? NONE : 1, steps < 3 ? 0 : 1);
            Check.due("lost", y.whole(12), steps < 3 ? 1 : 0);
        }
        Check.due("close 0", Check.run(x, "open;open;open;close 1;"), 4);
        Check.due("reader 0", x.reader(0, 0), 2);
        Check.due("reader 1", x.reader(1, 0), NONE);
        Check.due("reader 2", x.reader(2, 0), 2);
    }

    // "A run saves one state, the one from before it; its commands save none."
    private static void savedStates() {
        PageGarden x = new PageGarden();
        x.open();
        Check.type(x, "open;close 1;open;open;begin;put 1 1;");
        Check.answer("six commands", 6, () -> x.runCommands());
        Check.answer("one state", 1, () -> x.undo());
        Check.due("readers", x.whole(7), 1);
        for (int run = 0; run < 5; run++) {
            Check.due("an empty run", Check.run(x, run == 0 ? "" : " "), 0);
        }
        Check.answer("a run of nothing saves one too, up to four", 3, () -> x.undo());
        Check.due("a fault", Check.run(x, "open"), -14);
        Check.answer("saves none", 2, () -> x.undo());
        Check.due("readers", x.whole(7), 1);
    }

    public static void main(String[] args) {
        lengths();
        clearedTexts();
        longTexts();
        words();
        completeWords();
        digits();
        spaces();
        semicolons();
        firstFault();
        everyByte(" put 12  345 ; open; ");
        everyByte("drop 1;begin ;close 999;");
        everyByte("commit 03;abort;put 1 2;");
        refusedCommands();
        numbersOutOfRange();
        whatTheyDo();
        savedStates();
        Check.end("TextsEdgesTest");
    }
}
