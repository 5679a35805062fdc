import java.util.ArrayDeque;
import java.util.ArrayList;
import java.util.Deque;
import java.util.List;
import java.util.Map;
import java.util.TreeMap;
import java.util.TreeSet;
import java.util.regex.Matcher;
import java.util.regex.Pattern;

/**
 * The document told a second time, in another manner than the class: every state is a value, each
 * change works on a copy of it, and a change that cannot be done throws its copy away.
 */
final class ReferenceGarden {
    static final int NONE = -1000;

    private static final Map<String, Integer> WORDS = Map.of(
            "begin", 0, "put", 2, "drop", 1, "commit", 1, "abort", 0, "open", 0, "close", 1);
    private static final Pattern WHOLE_TEXT = Pattern.compile(
            "(?: *(?:(?:begin|abort|open)|(?:drop|commit|close) +[0-9]{1,3}"
            + "|put +[0-9]{1,3} +[0-9]{1,3}) *;)* *");

    private static final class Root {
        int count;
        int bed;
        boolean whole;
    }

    private static final class State {
        // What a bed holds or held last: a leaf's entries, or a directory's leaves; neither if it is wild.
        Map<Integer, TreeMap<Integer, Integer>> leaf = new TreeMap<>();
        Map<Integer, List<Integer>> directory = new TreeMap<>();
        TreeSet<Integer> used = new TreeSet<>();
        TreeMap<Integer, Integer> freed = new TreeMap<>();
        TreeSet<Integer> fresh = new TreeSet<>();
        TreeSet<Integer> left = new TreeSet<>();
        Root[] roots = {new Root(), new Root()};
        Integer[] readerCount = new Integer[4];
        Integer[] readerBed = new Integer[4];
        Integer draft = null;
        int commits = 0;
        int lost = 0;

        State copy() {
            State other = new State();
            leaf.forEach((bed, entries) -> other.leaf.put(bed, new TreeMap<>(entries)));
            directory.forEach((bed, leaves) -> other.directory.put(bed, new ArrayList<>(leaves)));
            other.used.addAll(used);
            other.freed.putAll(freed);
            other.fresh.addAll(fresh);
            other.left.addAll(left);
            for (int root = 0; root < 2; root++) {
                other.roots[root].count = roots[root].count;
                other.roots[root].bed = roots[root].bed;
                other.roots[root].whole = roots[root].whole;
            }
            other.readerCount = readerCount.clone();
            other.readerBed = readerBed.clone();
            other.draft = draft;
            other.commits = commits;
            other.lost = lost;
            return other;
        }

        Root current() {
            if (roots[0].whole && roots[1].whole) {
                return roots[0].count > roots[1].count ? roots[0] : roots[1];
            }
            return roots[0].whole ? roots[0] : roots[1];
        }

        Root asleep() {
            return current() == roots[0] ? roots[1] : roots[0];
        }

        int needed(int without) {
            TreeSet<Integer> counts = new TreeSet<>();
            for (Root root : roots) {
                if (root.whole) {
                    counts.add(root.count);
                }
            }
            for (int reader = 0; reader < 4; reader++) {
                if (reader != without && readerCount[reader] != null) {
                    counts.add(readerCount[reader]);
                }
            }
            return counts.first();
        }

        TreeSet<Integer> diggable() {
            TreeSet<Integer> beds = new TreeSet<>();
            freed.forEach((bed, count) -> {
                if (count <= needed(-1)) {
                    beds.add(bed);
                }
            });
            return beds;
        }

        TreeSet<Integer> wild() {
            TreeSet<Integer> beds = new TreeSet<>();
            for (int bed = 0; bed < 32; bed++) {
                if (!used.contains(bed) && !freed.containsKey(bed)) {
                    beds.add(bed);
                }
            }
            return beds;
        }

        int next() {
            int best = NONE;
            for (int bed : diggable().descendingSet()) {
                if (best == NONE || freed.get(bed) <= freed.get(best)) {
                    best = bed;
                }
            }
            if (best == NONE && !wild().isEmpty()) {
                best = wild().first();
            }
            return best;
        }

        int dig() {
            int bed = next();
            if (bed == NONE) {
                throw new IllegalStateException();
            }
            leaf.remove(bed);
            directory.remove(bed);
            freed.remove(bed);
            used.add(bed);
            fresh.add(bed);
            return bed;
        }

        void wilden(int bed) {
            leaf.remove(bed);
            directory.remove(bed);
            used.remove(bed);
            freed.remove(bed);
            fresh.remove(bed);
        }

        void leave(int bed) {
            if (fresh.contains(bed)) {
                wilden(bed);
            } else {
                left.add(bed);
            }
        }

        int dropDraft() {
            int count = fresh.size();
            for (int bed : new ArrayList<>(fresh)) {
                wilden(bed);
            }
            left.clear();
            draft = null;
            return count;
        }

        TreeMap<Integer, Integer> all(int bed) {
            TreeMap<Integer, Integer> entries = new TreeMap<>();
            for (int one : directory.get(bed)) {
                entries.putAll(leaf.get(one));
            }
            return entries;
        }

        int place(int key) {
            List<Integer> leaves = directory.get(draft);
            int place = leaves.size() - 1;
            while (place > 0 && leaf.get(leaves.get(place)).firstKey() > key) {
                place--;
            }
            return place;
        }

        void ownDirectory() {
            if (!fresh.contains(draft)) {
                int copy = dig();
                directory.put(copy, new ArrayList<>(directory.get(draft)));
                leave(draft);
                draft = copy;
            }
        }

        TreeMap<Integer, Integer> ownLeaf(int place) {
            int bed = directory.get(draft).get(place);
            if (!fresh.contains(bed)) {
                int copy = dig();
                leaf.put(copy, new TreeMap<>(leaf.get(bed)));
                leave(bed);
                directory.get(draft).set(place, copy);
                bed = copy;
            }
            return leaf.get(bed);
        }

        int put(int key, int value) {
            ownDirectory();
            int place = place(key);
            if (place < 0) {
                int bed = dig();
                leaf.put(bed, new TreeMap<>(Map.of(key, value)));
                directory.get(draft).add(bed);
                return NONE;
            }
            TreeMap<Integer, Integer> entries = ownLeaf(place);
            Integer previous = entries.put(key, value);
            if (entries.size() == 5) {
                if (directory.get(draft).size() == 6) {
                    throw new IllegalStateException();
                }
                int bed = dig();
                TreeMap<Integer, Integer> behind = new TreeMap<>();
                for (int moved = 0; moved < 2; moved++) {
                    Map.Entry<Integer, Integer> last = entries.pollLastEntry();
                    behind.put(last.getKey(), last.getValue());
                }
                leaf.put(bed, behind);
                directory.get(draft).add(place + 1, bed);
            }
            return previous == null ? NONE : previous;
        }

        int drop(int key) {
            if (!all(draft).containsKey(key)) {
                throw new IllegalStateException();
            }
            int value = all(draft).get(key);
            ownDirectory();
            int place = place(key);
            int bed = directory.get(draft).get(place);
            if (leaf.get(bed).size() == 1) {
                directory.get(draft).remove(place);
                leave(bed);
            } else {
                ownLeaf(place).remove(key);
            }
            return value;
        }

        int commit(int steps) {
            if (fresh.isEmpty()) {
                draft = null;
                return 0;
            }
            int count = current().count + 1;
            Root asleep = asleep();
            if (steps > 0) {
                asleep.whole = false;
            }
            if (steps > 1) {
                asleep.bed = draft;
                asleep.count = count;
            }
            if (steps < 3) {
                lost++;
                dropDraft();
                return NONE;
            }
            asleep.whole = true;
            commits++;
            int freeing = left.size();
            for (int bed : left) {
                used.remove(bed);
                freed.put(bed, count);
            }
            left.clear();
            fresh.clear();
            draft = null;
            return freeing;
        }
    }

    private State state = new State();
    private final Deque<State> undo = new ArrayDeque<>();
    private final StringBuilder text = new StringBuilder();

    ReferenceGarden() {
        state.used.add(0);
        state.directory.put(0, new ArrayList<>());
        state.roots[0].count = 1;
        state.roots[0].whole = true;
        state.roots[1].bed = NONE;
    }

    private static void index(boolean right) {
        if (!right) {
            throw new IndexOutOfBoundsException();
        }
    }

    private static void argument(boolean right) {
        if (!right) {
            throw new IllegalArgumentException();
        }
    }

    private static void state(boolean right) {
        if (!right) {
            throw new IllegalStateException();
        }
    }

    private static boolean within(int number, int least, int greatest) {
        return least <= number && number <= greatest;
    }

    private static int one(boolean condition) {
        return condition ? 1 : 0;
    }

    /** Does one of the commands on the state; what it throws leaves a state to be thrown away. */
    private static int perform(State now, String word, int a, int b) {
        switch (word) {
            case "begin":
                state(now.draft == null);
                now.draft = now.current().bed;
                return now.current().count;
            case "put":
                argument(within(a, 0, 99) && within(b, -999, 999));
                state(now.draft != null);
                return now.put(a, b);
            case "drop":
                argument(within(a, 0, 99));
                state(now.draft != null);
                return now.drop(a);
            case "commit":
                argument(within(a, 0, 3));
                state(now.draft != null);
                return now.commit(a);
            case "abort":
                state(now.draft != null);
                return now.dropDraft();
            case "open":
                for (int reader = 0; reader < 4; reader++) {
                    if (now.readerCount[reader] == null) {
                        now.readerCount[reader] = now.current().count;
                        now.readerBed[reader] = now.current().bed;
                        return reader;
                    }
                }
                throw new IllegalStateException();
            default:
                index(within(a, 0, 3));
                state(now.readerCount[a] != null);
                int before = now.diggable().size();
                now.readerCount[a] = null;
                now.readerBed[a] = null;
                return now.diggable().size() - before;
        }
    }

    private void save() {
        undo.addLast(state);
        if (undo.size() > 4) {
            undo.removeFirst();
        }
    }

    int command(String word, int a, int b) {
        State copy = state.copy();
        int answer = perform(copy, word, a, b);
        save();
        state = copy;
        return answer;
    }

    int get(int key) {
        argument(within(key, 0, 99));
        return state.all(state.current().bed).getOrDefault(key, NONE);
    }

    int drafted(int key) {
        argument(within(key, 0, 99));
        state(state.draft != null);
        return state.all(state.draft).getOrDefault(key, NONE);
    }

    int read(int reader, int key) {
        index(within(reader, 0, 3));
        argument(within(key, 0, 99));
        state(state.readerBed[reader] != null);
        return state.all(state.readerBed[reader]).getOrDefault(key, NONE);
    }

    int entry(int rank, int what) {
        index(within(rank, 0, state.all(state.current().bed).size() - 1));
        argument(within(what, 0, 3));
        int seen = 0;
        for (int bed : state.directory.get(state.current().bed)) {
            int place = 0;
            for (Map.Entry<Integer, Integer> entry : state.leaf.get(bed).entrySet()) {
                if (seen == rank) {
                    return List.of(entry.getKey(), entry.getValue(), bed, place).get(what);
                }
                seen++;
                place++;
            }
        }
        throw new AssertionError();
    }

    int root(int root, int what) {
        index(within(root, 0, 1));
        argument(within(what, 0, 3));
        Root one = state.roots[root];
        return List.of(one.count, one.bed, one(one.whole), one(one == state.current())).get(what);
    }

    int reader(int reader, int what) {
        index(within(reader, 0, 3));
        argument(within(what, 0, 2));
        if (state.readerBed[reader] == null) {
            return NONE;
        }
        int bed = state.readerBed[reader];
        return List.of(state.readerCount[reader], bed, state.all(bed).size()).get(what);
    }

    int bed(int bed, int what) {
        index(within(bed, 0, 31));
        argument(within(what, 0, 5));
        switch (what) {
            case 0:
                return state.used.contains(bed) ? 1 : state.freed.containsKey(bed) ? 2 : 0;
            case 1:
                return state.leaf.containsKey(bed) ? 0 : state.directory.containsKey(bed) ? 1 : NONE;
            case 2:
                return state.leaf.containsKey(bed) ? state.leaf.get(bed).size()
                        : state.directory.containsKey(bed) ? state.directory.get(bed).size() : NONE;
            case 3:
                return state.freed.getOrDefault(bed, NONE);
            case 4:
                return one(state.diggable().contains(bed));
            default:
                return one(state.fresh.contains(bed));
        }
    }

    int whole(int what) {
        argument(within(what, 0, 14));
        TreeMap<Integer, Integer> entries = state.all(state.current().bed);
        switch (what) {
            case 0:
                return state.wild().size();
            case 1:
                return state.used.size();
            case 2:
                return state.freed.size();
            case 3:
                return state.diggable().size();
            case 4:
                return state.needed(-1);
            case 5:
                return entries.size();
            case 6:
                return state.directory.get(state.current().bed).size();
            case 7:
                int open = 0;
                for (Integer count : state.readerCount) {
                    open += one(count != null);
                }
                return open;
            case 8:
                return one(state.draft != null);
            case 9:
                return state.fresh.size();
            case 10:
                return state.left.size();
            case 11:
                return state.commits;
            case 12:
                return state.lost;
            case 13:
                return entries.values().stream().mapToInt(Integer::intValue).sum();
            default:
                return text.length();
        }
    }

    int nextBed() {
        return state.next();
    }

    // With wild beds enough: the beds that a put would dig are those that are new behind it.
    int bedsFor(int key) {
        argument(within(key, 0, 99));
        state(state.draft != null);
        State copy = state.copy();
        int before = copy.fresh.size();
        List<Integer> leaves = copy.directory.get(copy.draft);
        int place = copy.place(key);
        boolean full = place >= 0 && copy.leaf.get(leaves.get(place)).size() == 4
                && !copy.leaf.get(leaves.get(place)).containsKey(key);
        if (full && leaves.size() == 6) {
            return NONE;
        }
        int digs = one(!copy.fresh.contains(copy.draft));
        digs += place < 0 ? 1 : one(!copy.fresh.contains(leaves.get(place))) + one(full);
        // Checked against the put itself where it can be done.
        if (digs <= copy.wild().size() + copy.diggable().size()) {
            copy.put(key, 0);
            if (copy.fresh.size() - before != digs) {
                throw new AssertionError("the reference is at odds with itself");
            }
        }
        return digs;
    }

    int reason(int key) {
        if (bedsFor(key) == NONE) {
            return 1;
        }
        try {
            state.copy().put(key, 0);
            return 0;
        } catch (IllegalStateException few) {
            return 2;
        }
    }

    int neededWithout(int reader) {
        index(within(reader, 0, 3));
        state(state.readerBed[reader] != null);
        return state.needed(reader);
    }

    int changedSince(int reader) {
        index(within(reader, 0, 3));
        state(state.readerBed[reader] != null);
        TreeMap<Integer, Integer> old = state.all(state.readerBed[reader]);
        TreeMap<Integer, Integer> now = state.all(state.current().bed);
        TreeSet<Integer> keys = new TreeSet<>(old.keySet());
        keys.addAll(now.keySet());
        keys.removeIf(key -> old.containsKey(key) && old.get(key).equals(now.get(key)));
        return keys.size();
    }

    int type(int value) {
        argument(within(value, 0, 127));
        state(text.length() < 150);
        text.append((char) value);
        return text.length();
    }

    int clearCommands() {
        int length = text.length();
        text.setLength(0);
        return length;
    }

    /** The fault of a text; -1 if it has none. */
    static int fault(String text) {
        Matcher whole = WHOLE_TEXT.matcher(text);
        if (whole.matches()) {
            return -1;
        }
        int fault = 0;
        while (fault < text.length() && canGoOn(text.substring(0, fault + 1))) {
            fault++;
        }
        int start = fault;
        while (start > 0 && isLetter(text.charAt(start - 1))) {
            start--;
        }
        int end = start;
        while (end < text.length() && isLetter(text.charAt(end))) {
            end++;
        }
        boolean atCommand = WHOLE_TEXT.matcher(text.substring(0, start)).matches();
        return end > start && atCommand && !WORDS.containsKey(text.substring(start, end)) ? start : fault;
    }

    private static boolean isLetter(char sign) {
        return sign >= 'a' && sign <= 'z';
    }

    private static boolean canGoOn(String prefix) {
        Matcher matcher = WHOLE_TEXT.matcher(prefix);
        return matcher.matches() || matcher.hitEnd();
    }

    int runCommands() {
        int fault = fault(text.toString());
        if (fault >= 0) {
            return -10 - fault;
        }
        save();
        int done = 0;
        for (String part : text.toString().split(";")) {
            String[] words = part.trim().split(" +");
            if (words[0].isEmpty()) {
                break;
            }
            int a = words.length > 1 ? Integer.parseInt(words[1]) : 0;
            int b = words.length > 2 ? Integer.parseInt(words[2]) : 0;
            State copy = state.copy();
            try {
                perform(copy, words[0], a, b);
            } catch (RuntimeException refused) {
                break;
            }
            state = copy;
            done++;
        }
        return done;
    }

    int undo() {
        state(!undo.isEmpty());
        state = undo.removeLast();
        return undo.size();
    }

    long digest() {
        List<Integer> row = new ArrayList<>();
        row.add(undo.size());
        for (int what = 0; what < 15; what++) {
            row.add(whole(what));
        }
        for (int at = 0; at < 8; at++) {
            row.add(root(at / 4, at % 4));
        }
        for (int at = 0; at < 12; at++) {
            row.add(reader(at / 3, at % 3));
        }
        for (int at = 0; at < 192; at++) {
            row.add(bed(at / 6, at % 6));
        }
        for (int at = 0; at < 4 * whole(5); at++) {
            row.add(entry(at / 4, at % 4));
        }
        row.add(nextBed());
        for (int key = 0; key < 100 && state.draft != null; key++) {
            row.add(drafted(key));
        }
        long hash = 43518;
        for (int value : row) {
            hash = 31 * hash + value;
        }
        return hash;
    }
}
