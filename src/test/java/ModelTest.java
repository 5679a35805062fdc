/** Long runs of calls, all of them compared with the reference; all promises, 1 to 26. */
public final class ModelTest {
    private static final int GARDENS = 1500;
    private static final int CALLS = 500;
    private static final String[] WORDS = {"begin", "put", "drop", "commit", "abort", "open", "close"};
    private static final int[] NUMBERS = {0, 2, 1, 1, 0, 0, 1};
    // Weights of the words above and of undo: balanced, growing, with old readers, with long drafts.
    private static final int[][] MOODS = {
        {6, 40, 14, 14, 2, 6, 7, 5}, {2, 60, 3, 10, 1, 2, 2, 2}, {2, 45, 4, 20, 1, 5, 1, 2}, {1, 60, 40, 3, 1, 2, 2, 4}};

    private static long seed = 1;
    private static boolean differs;
    // What befell in all runs, so that a poor mixture of calls is seen.
    private static final int[] seen = new int[8];

    private static int draw(int bound) {
        seed = seed * 6364136223846793005L + 1442695040888963407L;
        return (int) ((seed >>> 33) % bound);
    }

    private static void compare(int run, int step, String call, Check.Call got, Check.Call want) {
        String answer = Check.answerOf(got);
        String due = Check.answerOf(want);
        if (!answer.equals(due)) {
            differs = true;
        }
        Check.same("run " + run + ", step " + step + ": " + call, answer, due);
    }

    private static int key(int keys) {
        return draw(60) == 0 ? draw(300) - 100 : draw(keys) * (100 / keys);
    }

    private static int value() {
        return draw(40) == 0 ? draw(3000) - 1500 : draw(7) - 3;
    }

    /** A call's name, drawn by the mood of the run: its weights for the calls, in the order of WORDS. */
    private static String drawn(int[] mood, boolean drafting) {
        if (!drafting && draw(3) > 0) {
            return "begin";
        }
        int sum = 0;
        for (int weight : mood) {
            sum += weight;
        }
        int rest = draw(sum);
        int at = 0;
        while (at < WORDS.length && rest >= mood[at]) {
            rest -= mood[at];
            at++;
        }
        return at < WORDS.length ? WORDS[at] : "undo";
    }

    private static void change(int run, int step, PageGarden x, ReferenceGarden y, int keys, int lossy, int[] mood) {
        String word = drawn(mood, y.whole(8) == 1);
        int key = key(keys);
        int value = value();
        int steps = draw(30) == 0 ? draw(9) - 3 : draw(lossy) == 0 ? draw(3) : 3;
        int reader = draw(6) - 1;
        switch (word) {
            case "begin":
                compare(run, step, "begin()", () -> x.begin(), () -> y.command("begin", 0, 0));
                break;
            case "put":
                compare(run, step, "put(" + key + ", " + value + ")", () -> x.put(key, value),
                        () -> y.command("put", key, value));
                break;
            case "drop":
                compare(run, step, "remove(" + key + ")", () -> x.remove(key), () -> y.command("drop", key, 0));
                break;
            case "commit":
                compare(run, step, "commit(" + steps + ")", () -> x.commit(steps), () -> y.command("commit", steps, 0));
                break;
            case "abort":
                compare(run, step, "abort()", () -> x.abort(), () -> y.command("abort", 0, 0));
                break;
            case "open":
                compare(run, step, "open()", () -> x.open(), () -> y.command("open", 0, 0));
                break;
            case "close":
                compare(run, step, "close(" + reader + ")", () -> x.close(reader), () -> y.command("close", reader, 0));
                break;
            default:
                compare(run, step, "undo()", () -> x.undo(), () -> y.undo());
                break;
        }
    }

    private static void question(int run, int step, PageGarden x, ReferenceGarden y, int keys) {
        int key = key(keys);
        int a = draw(8) == 0 ? draw(60) - 20 : draw(4);
        int b = draw(9) - 1;
        switch (draw(13)) {
            case 0:
                compare(run, step, "get(" + key + ")", () -> x.get(key), () -> y.get(key));
                break;
            case 1:
                compare(run, step, "drafted(" + key + ")", () -> x.drafted(key), () -> y.drafted(key));
                break;
            case 2:
                compare(run, step, "read(" + a + ", " + key + ")", () -> x.read(a, key), () -> y.read(a, key));
                break;
            case 3:
                compare(run, step, "entry(" + a + ", " + b + ")", () -> x.entry(a, b), () -> y.entry(a, b));
                break;
            case 4:
                compare(run, step, "root(" + a + ", " + b + ")", () -> x.root(a, b), () -> y.root(a, b));
                break;
            case 5:
                compare(run, step, "reader(" + a + ", " + b + ")", () -> x.reader(a, b), () -> y.reader(a, b));
                break;
            case 6:
                compare(run, step, "bed(" + a + ", " + b + ")", () -> x.bed(a, b), () -> y.bed(a, b));
                break;
            case 7:
                compare(run, step, "whole(" + a + ")", () -> x.whole(a), () -> y.whole(a));
                break;
            case 8:
                compare(run, step, "nextBed()", () -> x.nextBed(), () -> y.nextBed());
                break;
            case 9:
                compare(run, step, "bedsFor(" + key + ")", () -> x.bedsFor(key), () -> y.bedsFor(key));
                break;
            case 10:
                compare(run, step, "reason(" + key + ")", () -> x.reason(key), () -> y.reason(key));
                String reason = Check.answerOf(() -> y.reason(key));
                seen[reason.length() > 1 ? 3 : reason.charAt(0) - '0']++;
                break;
            case 11:
                compare(run, step, "neededWithout(" + a + ")", () -> x.neededWithout(a), () -> y.neededWithout(a));
                break;
            default:
                compare(run, step, "changedSince(" + a + ")", () -> x.changedSince(a), () -> y.changedSince(a));
                break;
        }
    }

    private static String spaces(int least) {
        return draw(3) == 0 ? " ".repeat(least + draw(3)) : " ".repeat(least);
    }

    private static String commands(int keys) {
        StringBuilder text = new StringBuilder();
        int count = draw(14);
        for (int made = 0; made < count; made++) {
            int word = draw(10) < 5 ? 1 : draw(WORDS.length);
            text.append(spaces(0)).append(WORDS[word]);
            for (int number = 0; number < NUMBERS[word]; number++) {
                int drawn = draw(40) == 0 ? draw(1000) : word == 1 || word == 2 ? draw(keys) * (100 / keys) : draw(4);
                text.append(spaces(1)).append("0".repeat(drawn < 10 && draw(8) == 0 ? 2 : 0)).append(drawn);
            }
            text.append(spaces(0)).append(';');
        }
        text.append(spaces(0));
        if (draw(4) == 0 && text.length() > 0) {
            text.setCharAt(draw(text.length()), "begin0 9;~Z\t/:`{put".charAt(draw(19)));
        }
        if (draw(8) == 0) {
            text.setLength(draw(text.length() + 1));
        }
        if (text.length() > 150) {
            text.setLength(150);
        }
        return text.toString();
    }

    private static int runText(int run, int step, PageGarden x, ReferenceGarden y, int keys, int room) {
        String text = commands(keys);
        if (text.length() + 3 > room) {
            return 0;
        }
        compare(run, step, "clearCommands()", () -> x.clearCommands(), () -> y.clearCommands());
        for (int index = 0; index < text.length(); index++) {
            char sign = text.charAt(index);
            compare(run, step, "type(" + (int) sign + ")", () -> x.type(sign), () -> y.type(sign));
        }
        compare(run, step, "runCommands() of '" + text + "'", () -> x.runCommands(), () -> y.runCommands());
        seen[ReferenceGarden.fault(text) < 0 ? 4 : 5]++;
        return text.length() + 2;
    }

    private static void run(int run) {
        PageGarden x = new PageGarden();
        ReferenceGarden y = new ReferenceGarden();
        int keys = new int[] {5, 10, 20, 50, 100}[draw(5)];
        int lossy = new int[] {2, 5, 20}[draw(3)];
        int share = draw(3) == 0 ? 12 : 40;
        int[] mood = MOODS[draw(MOODS.length)];
        differs = false;
        int calls = 0;
        for (int step = 0; calls + 3 < CALLS && !differs; step++) {
            int kind = draw(share);
            if (kind == 0) {
                calls += runText(run, step, x, y, keys, CALLS - calls);
            } else if (kind < 5) {
                question(run, step, x, y, keys);
                calls++;
            } else {
                change(run, step, x, y, keys, lossy, mood);
                calls++;
            }
            compare(run, step, "digest()", () -> x.digest(), () -> y.digest());
            calls++;
        }
    }

    public static void main(String[] args) {
        for (int run = 0; run < GARDENS; run++) {
            run(run);
        }
        for (int kind = 0; kind < 6; kind++) {
            Check.due("kind " + kind + " of answers was seen often enough", seen[kind] > 20 ? 1 : 0, 1);
        }
        System.out.println("seen: " + java.util.Arrays.toString(seen));
        Check.end("ModelTest");
    }
}
