/**
 * Every number that a call takes, at both ends of its range: the end itself, one step inside, one step
 * outside, and the ends of int.
 */
public final class RangesTest {
    private static final int NONE = PageGarden.NONE;
    private static final Class<?> INDEX = IndexOutOfBoundsException.class;
    private static final Class<?> ARGUMENT = IllegalArgumentException.class;

    /** The two least and the two greatest keys and values, all readers on them, and a draft without a change. */
    private static PageGarden atTheEnds() {
        PageGarden x = new PageGarden();
        x.begin();
        x.put(0, -999);
        x.put(1, -998);
        x.put(98, 998);
        x.put(99, 999);
        x.commit(3);
        for (int reader = 0; reader < 4; reader++) {
            x.open();
        }
        x.begin();
        return x;
    }

    private static PageGarden drafting() {
        PageGarden x = new PageGarden();
        x.begin();
        return x;
    }

    private static PageGarden changed() {
        PageGarden x = atTheEnds();
        x.put(0, 0);
        return x;
    }

    /** Reader n stays with the root in which key 9 has the value 10 + n. */
    private static PageGarden readersApart() {
        PageGarden x = new PageGarden();
        for (int reader = 0; reader < 4; reader++) {
            x.begin();
            x.put(9, 10 + reader);
            x.commit(3);
            x.open();
        }
        return x;
    }

    private static PageGarden withText() {
        PageGarden x = new PageGarden();
        Check.committed(x, 1, 2, 3);
        Check.type(x, "open;");
        return x;
    }

    private static PageGarden ofKeys(int... keys) {
        PageGarden x = new PageGarden();
        Check.committed(x, keys);
        return x;
    }

    private static void keys() {
        Check.range("put, previous value", ARGUMENT, 0, 99, RangesTest::atTheEnds, (x, key) -> x.put(key, 5),
                -999, -998, 998, 999);
        Check.range("put, key that is new", ARGUMENT, 0, 99, RangesTest::drafting, (x, key) -> x.put(key, 5),
                NONE, NONE, NONE, NONE);
        Check.range("remove", ARGUMENT, 0, 99, RangesTest::atTheEnds, (x, key) -> x.remove(key),
                -999, -998, 998, 999);
        Check.range("get", ARGUMENT, 0, 99, RangesTest::atTheEnds, (x, key) -> x.get(key), -999, -998, 998, 999);
        Check.range("get, key without a value", ARGUMENT, 0, 99, PageGarden::new, (x, key) -> x.get(key),
                NONE, NONE, NONE, NONE);
        Check.range("drafted", ARGUMENT, 0, 99, RangesTest::atTheEnds, (x, key) -> x.drafted(key),
                -999, -998, 998, 999);
        Check.range("read", ARGUMENT, 0, 99, RangesTest::atTheEnds, (x, key) -> x.read(3, key),
                -999, -998, 998, 999);
        Check.range("bedsFor", ARGUMENT, 0, 99, RangesTest::atTheEnds, (x, key) -> x.bedsFor(key), 2, 2, 2, 2);
        Check.range("reason", ARGUMENT, 0, 99, RangesTest::atTheEnds, (x, key) -> x.reason(key), 0, 0, 0, 0);
    }

    private static long putAndTell(PageGarden x, int value) {
        x.put(50, value);
        x.commit(3);
        return x.get(50);
    }

    private static void values() {
        Check.range("put, value", ARGUMENT, -999, 999, RangesTest::drafting, RangesTest::putAndTell,
                -999, -998, 998, 999);
        Check.range("put, value of a key that is there", ARGUMENT, -999, 999, RangesTest::atTheEnds,
                (x, value) -> x.put(99, value), 999, 999, 999, 999);
    }

    private static void steps() {
        Check.range("commit", ARGUMENT, 0, 3, RangesTest::changed, (x, steps) -> x.commit(steps), NONE, NONE, NONE, 2);
        Check.range("commit without a change", ARGUMENT, 0, 3, RangesTest::atTheEnds, (x, steps) -> x.commit(steps),
                0, 0, 0, 0);
    }

    private static void readers() {
        Check.range("read", INDEX, 0, 3, RangesTest::readersApart, (x, reader) -> x.read(reader, 9), 10, 11, 12, 13);
        Check.range("reader, count", INDEX, 0, 3, RangesTest::readersApart, (x, reader) -> x.reader(reader, 0),
                2, 3, 4, 5);
        Check.range("reader that is not open", INDEX, 0, 3, PageGarden::new, (x, reader) -> x.reader(reader, 0),
                NONE, NONE, NONE, NONE);
        Check.range("close", INDEX, 0, 3, RangesTest::readersApart, (x, reader) -> x.close(reader), 2, 0, 0, 0);
        Check.range("neededWithout", INDEX, 0, 3, RangesTest::readersApart, (x, reader) -> x.neededWithout(reader),
                3, 2, 2, 2);
        Check.range("changedSince", INDEX, 0, 3, RangesTest::readersApart, (x, reader) -> x.changedSince(reader),
                1, 1, 1, 0);
        Check.range("reader, what", ARGUMENT, 0, 2, RangesTest::atTheEnds, (x, what) -> x.reader(3, what), 2, 1, 1, 4);
        Check.range("reader that is not open, what", ARGUMENT, 0, 2, PageGarden::new, (x, what) -> x.reader(3, what),
                NONE, NONE, NONE, NONE);
    }

    private static void rankOf(int count, int[] keys) {
        PageGarden x = ofKeys(keys);
        for (int rank = 0; rank < count; rank++) {
            int at = rank;
            Check.answer("entry " + rank + " of " + count, keys[rank], () -> x.entry(at, 0));
        }
        Check.badIndex("entry " + count + " of " + count, x, () -> x.entry(count, 0));
        Check.badIndex("entry " + (count + 1) + " of " + count, x, () -> x.entry(count + 1, 3));
        Check.badIndex("entry -1 of " + count, x, () -> x.entry(-1, 0));
    }

    private static void entries() {
        Check.range("entry, rank", INDEX, 0, 3, RangesTest::atTheEnds, (x, rank) -> x.entry(rank, 0), 0, 1, 98, 99);
        Check.range("entry, rank behind a leaf", INDEX, 0, 4, () -> ofKeys(1, 2, 3, 4, 5),
                (x, rank) -> x.entry(rank, 2) * 100 + x.entry(rank, 3), 200, 201, 300, 301);
        Check.range("entry, what", ARGUMENT, 0, 3, RangesTest::atTheEnds, (x, what) -> x.entry(3, what), 99, 999, 2, 3);
        rankOf(0, new int[] {});
        rankOf(1, new int[] {7});
        rankOf(2, new int[] {7, 8});
        rankOf(4, new int[] {6, 7, 8, 9});
        rankOf(5, new int[] {5, 6, 7, 8, 9});
    }

    private static void roots() {
        Check.range("root, count", INDEX, 0, 1, RangesTest::atTheEnds, (x, root) -> x.root(root, 0), 1, 2, 1, 2);
        Check.range("root 0, what", ARGUMENT, 0, 3, RangesTest::atTheEnds, (x, what) -> x.root(0, what), 1, 0, 1, 0);
        Check.range("root 1, what", ARGUMENT, 0, 3, RangesTest::atTheEnds, (x, what) -> x.root(1, what), 2, 1, 1, 1);
        Check.range("root 1 at first", ARGUMENT, 0, 3, PageGarden::new, (x, what) -> x.root(1, what), 0, NONE, 0, 0);
    }

    private static void beds() {
        Check.range("bed, state", INDEX, 0, 31, RangesTest::atTheEnds, (x, bed) -> x.bed(bed, 0), 2, 1, 0, 0);
        Check.range("bed, kind", INDEX, 0, 31, RangesTest::atTheEnds, (x, bed) -> x.bed(bed, 1), 1, 1, NONE, NONE);
        Check.range("a used bed, what", ARGUMENT, 0, 5, RangesTest::atTheEnds, (x, what) -> x.bed(2, what), 1, 0, 0, 0);
        Check.range("a freed bed, what", ARGUMENT, 0, 5, RangesTest::readersApart, (x, what) -> x.bed(0, what),
                2, 1, 0, 0);
        Check.range("a wild bed, what", ARGUMENT, 0, 5, RangesTest::atTheEnds, (x, what) -> x.bed(31, what),
                0, NONE, 0, 0);
        Check.range("a new bed, what", ARGUMENT, 0, 5, RangesTest::changed, (x, what) -> x.bed(3, what), 1, 1, 0, 1);
    }

    private static void theRest() {
        Check.range("whole", ARGUMENT, 0, 14, RangesTest::withText, (x, what) -> x.whole(what), 29, 2, 6, 5);
        Check.range("type", ARGUMENT, 0, 127, PageGarden::new, (x, value) -> x.type(value), 1, 1, 1, 1);
    }

    public static void main(String[] args) {
        keys();
        values();
        steps();
        readers();
        entries();
        roots();
        beds();
        theRest();
        Check.end("RangesTest");
    }
}
