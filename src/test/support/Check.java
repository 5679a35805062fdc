/** Counts and prints the answers of a PageGarden that are not the ones that are due. */
final class Check {
    /** A call that is expected to throw, or not to. */
    interface Call {
        long answer();
    }

    /** Makes the garden that a call of a range is put to; each call gets its own. */
    interface Maker {
        PageGarden made();
    }

    /** A call with one number. */
    interface Numbered {
        long answer(PageGarden garden, int number);
    }

    private static int wrong = 0;

    private Check() {
    }

    static void due(String what, long got, long want) {
        if (got != want) {
            wrong++;
            System.out.println(what + " answered " + got + ", due is " + want);
        }
    }

    static String answerOf(Call call) {
        try {
            return Long.toString(call.answer());
        } catch (RuntimeException thrown) {
            return "throws." + thrown.getClass().getSimpleName();
        }
    }

    static void same(String what, String got, String want) {
        if (!got.equals(want)) {
            wrong++;
            System.out.println(what + " answered " + got + ", due is " + want);
        }
    }

    /** The call throws just this exception, and changes nothing of the garden. */
    private static void refused(String what, PageGarden garden, Class<?> due, Call call) {
        long before = garden.digest();
        same(what, answerOf(call), "throws." + due.getSimpleName());
        due(what + ": digest behind the refused call", garden.digest(), before);
    }

    static void badIndex(String what, PageGarden garden, Call call) {
        refused(what, garden, IndexOutOfBoundsException.class, call);
    }

    static void badArgument(String what, PageGarden garden, Call call) {
        refused(what, garden, IllegalArgumentException.class, call);
    }

    static void badState(String what, PageGarden garden, Call call) {
        refused(what, garden, IllegalStateException.class, call);
    }

    /** The call ends normally, with this answer. */
    static void answer(String what, long want, Call call) {
        same(what, answerOf(call), Long.toString(want));
    }

    /**
     * The numbers from least to greatest are answered, and none else: what is due is told for the least one
     * and the one behind it, and for the last but one and the greatest one.
     */
    static void range(String what, Class<?> outside, int least, int greatest, Maker maker, Numbered call,
            long... want) {
        int[] inside = {least, least + 1, greatest - 1, greatest};
        for (int at = 0; at < inside.length; at++) {
            int number = inside[at];
            PageGarden garden = maker.made();
            answer(what + " of " + number, want[at], () -> call.answer(garden, number));
        }
        for (int number : new int[] {least - 1, greatest + 1, Integer.MIN_VALUE, Integer.MAX_VALUE}) {
            PageGarden garden = maker.made();
            refused(what + " of " + number, garden, outside, () -> call.answer(garden, number));
        }
    }

    /** The answers of whole(), from number 0 on. */
    static void whole(String where, PageGarden garden, int... want) {
        for (int what = 0; what < want.length; what++) {
            due(where + ": whole(" + what + ")", garden.whole(what), want[what]);
        }
    }

    /** The answers of bed(bed, ..), from number 0 on. */
    static void bed(String where, PageGarden garden, int bed, int... want) {
        for (int what = 0; what < want.length; what++) {
            due(where + ": bed(" + bed + ", " + what + ")", garden.bed(bed, what), want[what]);
        }
    }

    static void root(String where, PageGarden garden, int root, int... want) {
        for (int what = 0; what < want.length; what++) {
            due(where + ": root(" + root + ", " + what + ")", garden.root(root, what), want[what]);
        }
    }

    static void entry(String where, PageGarden garden, int rank, int... want) {
        for (int what = 0; what < want.length; what++) {
            due(where + ": entry(" + rank + ", " + what + ")", garden.entry(rank, what), want[what]);
        }
    }

    static void reader(String where, PageGarden garden, int reader, int... want) {
        for (int what = 0; what < want.length; what++) {
            due(where + ": reader(" + reader + ", " + what + ")", garden.reader(reader, what), want[what]);
        }
    }

    static void type(PageGarden garden, String text) {
        for (int index = 0; index < text.length(); index++) {
            garden.type(text.charAt(index));
        }
    }

    /** Clears the command text, types this one and runs it. */
    static int run(PageGarden garden, String text) {
        garden.clearCommands();
        type(garden, text);
        return garden.runCommands();
    }

    /** The keys of the current root, each as key@bed/place. */
    static String entries(PageGarden garden) {
        StringBuilder row = new StringBuilder();
        int count = garden.whole(5);
        for (int rank = 0; rank < count; rank++) {
            row.append(rank == 0 ? "" : " ").append(garden.entry(rank, 0)).append('@').append(garden.entry(rank, 2))
                    .append('/').append(garden.entry(rank, 3));
        }
        return row.toString();
    }

    /** The keys of the current root, leaf by leaf. */
    static String leaves(PageGarden garden) {
        StringBuilder row = new StringBuilder();
        int count = garden.whole(5);
        for (int rank = 0; rank < count; rank++) {
            boolean isFirst = garden.entry(rank, 3) == 0;
            row.append(rank == 0 ? "" : isFirst ? " | " : " ").append(garden.entry(rank, 0));
        }
        return row.toString();
    }

    /** The beds that can be dug one behind the other. */
    static int beds(PageGarden garden) {
        return garden.whole(0) + garden.whole(3);
    }

    /** Begins a draft, puts each key with itself as its value, and commits it whole. */
    static int committed(PageGarden garden, int... keys) {
        garden.begin();
        for (int key : keys) {
            garden.put(key, key);
        }
        return garden.commit(3);
    }

    static void end(String test) {
        System.out.println(test + ": " + (wrong == 0 ? "all answers are as due" : wrong + " answers are wrong"));
        if (wrong != 0) {
            System.exit(1);
        }
    }
}
