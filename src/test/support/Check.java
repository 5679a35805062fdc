/** Counts and prints the answers of a PageGarden that are not the ones that are due. */
final class Check {
    /** A call that is expected to throw, or not to. */
    interface Call {
        long answer();
    }

    private static int wrong = 0;

    private Check() {
    }

    static void due(String what, long got, long want) {
        if (got != want) {
            wrong++;
            System.out.println(what + " answered " + got + ", due is " + want);
        }
    }

    static String answerOf(Call call) {
        try {
            return Long.toString(call.answer());
        } catch (RuntimeException thrown) {
            return "throws." + thrown.getClass().getSimpleName();
        }
    }

    static void same(String what, String got, String want) {
        if (!got.equals(want)) {
            wrong++;
            System.out.println(what + " answered " + got + ", due is " + want);
        }
    }

    /** The call throws just this exception, and changes nothing of the garden. */
    private static void refused(String what, PageGarden garden, Class<?> due, Call call) {
        long before = garden.digest();
        same(what, answerOf(call), "throws." + due.getSimpleName());
        due(what + ": digest behind the refused call", garden.digest(), before);
    }

    static void badIndex(String what, PageGarden garden, Call call) {
        refused(what, garden, IndexOutOfBoundsException.class, call);
    }

    static void badArgument(String what, PageGarden garden, Call call) {
        refused(what, garden, IllegalArgumentException.class, call);
    }

    static void badState(String what, PageGarden garden, Call call) {
        refused(what, garden, IllegalStateException.class, call);
    }

    /** The answers of whole(), from number 0 on. */
    static void whole(String where, PageGarden garden, int... want) {
        for (int what = 0; what < want.length; what++) {
            due(where + ": whole(" + what + ")", garden.whole(what), want[what]);
        }
    }

    /** The answers of bed(bed, ..), from number 0 on. */
    static void bed(String where, PageGarden garden, int bed, int... want) {
        for (int what = 0; what < want.length; what++) {
            due(where + ": bed(" + bed + ", " + what + ")", garden.bed(bed, what), want[what]);
        }
    }

    static void root(String where, PageGarden garden, int root, int... want) {
        for (int what = 0; what < want.length; what++) {
            due(where + ": root(" + root + ", " + what + ")", garden.root(root, what), want[what]);
        }
    }

    static void entry(String where, PageGarden garden, int rank, int... want) {
        for (int what = 0; what < want.length; what++) {
            due(where + ": entry(" + rank + ", " + what + ")", garden.entry(rank, what), want[what]);
        }
    }

    static void reader(String where, PageGarden garden, int reader, int... want) {
        for (int what = 0; what < want.length; what++) {
            due(where + ": reader(" + reader + ", " + what + ")", garden.reader(reader, what), want[what]);
        }
    }

    static void type(PageGarden garden, String text) {
        for (int index = 0; index < text.length(); index++) {
            garden.type(text.charAt(index));
        }
    }

    /** Clears the command text, types this one and runs it. */
    static int run(PageGarden garden, String text) {
        garden.clearCommands();
        type(garden, text);
        return garden.runCommands();
    }

    /** Begins a draft, puts each key with itself as its value, and commits it whole. */
    static int committed(PageGarden garden, int... keys) {
        garden.begin();
        for (int key : keys) {
            garden.put(key, key);
        }
        return garden.commit(3);
    }

    static void end(String test) {
        System.out.println(test + ": " + (wrong == 0 ? "all answers are as due" : wrong + " answers are wrong"));
        if (wrong != 0) {
            System.exit(1);
        }
    }
}
