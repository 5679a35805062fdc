/** Promises 9, 10, 12, 13, 15 and 16: get, drafted, entry, root, bed, whole. */
public final class ValuesTest {
    private static final int NONE = PageGarden.NONE;

    private static void get() {
        PageGarden x = new PageGarden();
        Check.due("get(0) of an empty garden", x.get(0), NONE);
        Check.badArgument("get(-1)", x, () -> x.get(-1));
        Check.badArgument("get(100)", x, () -> x.get(100));
        x.begin();
        x.put(0, -999);
        x.put(99, 999);
        x.put(50, 0);
        Check.due("get(0) with a draft", x.get(0), NONE);
        x.commit(3);
        Check.due("get(0)", x.get(0), -999);
        Check.due("get(99)", x.get(99), 999);
        Check.due("get(50)", x.get(50), 0);
        Check.due("get(49)", x.get(49), NONE);
        Check.due("get(98)", x.get(98), NONE);
    }

    private static void drafted() {
        PageGarden x = new PageGarden();
        Check.badArgument("drafted(-1) without a draft", x, () -> x.drafted(-1));
        Check.badArgument("drafted(100) without a draft", x, () -> x.drafted(100));
        Check.badState("drafted(0) without a draft", x, () -> x.drafted(0));
        Check.committed(x, 1, 2, 3, 4, 5);
        x.begin();
        Check.due("drafted(5) before a change", x.drafted(5), 5);
        Check.badArgument("drafted(100)", x, () -> x.drafted(100));
        x.put(5, -5);
        x.remove(1);
        Check.due("drafted(5)", x.drafted(5), -5);
        Check.due("drafted(1)", x.drafted(1), NONE);
        Check.due("drafted(2)", x.drafted(2), 2);
        Check.due("get(5)", x.get(5), 5);
        x.commit(0);
        Check.badState("drafted(5) of a lost draft", x, () -> x.drafted(5));
    }

    private static void entry() {
        PageGarden x = new PageGarden();
        Check.badIndex("entry(0, 9) of an empty garden", x, () -> x.entry(0, 9));
        x.begin();
        x.put(30, 3);
        x.put(10, 1);
        x.put(50, -5);
        x.put(40, 4);
        x.put(20, 2);
        Check.badIndex("entry(0, 0) of a draft", x, () -> x.entry(0, 0));
        x.commit(3);
        Check.entry("in order", x, 0, 10, 1, 2, 0);
        Check.entry("in order", x, 2, 30, 3, 2, 2);
        Check.entry("in order", x, 3, 40, 4, 3, 0);
        Check.entry("in order", x, 4, 50, -5, 3, 1);
        Check.badIndex("entry(5, 4)", x, () -> x.entry(5, 4));
        Check.badIndex("entry(-1, 0)", x, () -> x.entry(-1, 0));
        Check.badArgument("entry(4, 4)", x, () -> x.entry(4, 4));
        Check.badArgument("entry(0, -1)", x, () -> x.entry(0, -1));
    }

    private static void root() {
        PageGarden x = new PageGarden();
        Check.badIndex("root(-1, 4)", x, () -> x.root(-1, 4));
        Check.badIndex("root(2, 0)", x, () -> x.root(2, 0));
        Check.badArgument("root(1, -1)", x, () -> x.root(1, -1));
        Check.badArgument("root(0, 4)", x, () -> x.root(0, 4));
        int[] current = {1, 0, 1};
        for (int key = 0; key < current.length; key++) {
            Check.committed(x, key);
            Check.due("root 0 is current", x.root(0, 3), 1 - current[key]);
            Check.due("root 1 is current", x.root(1, 3), current[key]);
            Check.due("its count", x.root(current[key], 0), key + 2);
            Check.due("the other one's count", x.root(1 - current[key], 0), key + 1);
        }
    }

    private static void bed() {
        PageGarden x = new PageGarden();
        Check.badIndex("bed(-1, 6)", x, () -> x.bed(-1, 6));
        Check.badIndex("bed(32, 0)", x, () -> x.bed(32, 0));
        Check.badArgument("bed(31, -1)", x, () -> x.bed(31, -1));
        Check.badArgument("bed(0, 6)", x, () -> x.bed(0, 6));
        Check.committed(x, 1, 2, 3, 4, 5);
        x.open();
        x.begin();
        x.put(1, 0);
        Check.bed("left", x, 2, 1, 0, 3, NONE, 0, 0);
        Check.bed("left", x, 1, 1, 1, 2, NONE, 0, 0);
        Check.bed("new", x, 4, 1, 1, 2, NONE, 0, 1);
        Check.bed("new", x, 5, 1, 0, 3, NONE, 0, 1);
        x.commit(3);
        Check.bed("freed, read by a reader", x, 2, 2, 0, 3, 3, 0, 0);
        Check.bed("freed, read by a reader", x, 1, 2, 1, 2, 3, 0, 0);
        Check.bed("freed before that", x, 0, 2, 1, 0, 2, 1, 0);
        Check.bed("used by both", x, 3, 1, 0, 2, NONE, 0, 0);
        Check.committed(x, 9);
        x.close(0);
        Check.bed("its count is not greater than the needed one", x, 1, 2, 1, 2, 3, 1, 0);
        Check.bed("its count is greater", x, 4, 2, 1, 2, 4, 0, 0);
        Check.bed("wild", x, 31, 0, NONE, NONE, NONE, 0, 0);
    }

    private static void whole() {
        PageGarden x = new PageGarden();
        Check.badArgument("whole(-1)", x, () -> x.whole(-1));
        Check.badArgument("whole(15)", x, () -> x.whole(15));
        Check.type(x, "open");
        x.begin();
        x.put(10, -700);
        x.put(20, 5);
        Check.whole("drafted", x, 29, 3, 0, 0, 1, 0, 0, 0, 1, 2, 1, 0, 0, 0, 4);
        x.commit(3);
        Check.whole("committed", x, 29, 2, 1, 0, 1, 2, 1, 0, 0, 0, 0, 1, 0, -695, 4);
        x.open();
        x.begin();
        x.put(10, 1);
        x.commit(2);
        Check.whole("lost", x, 29, 2, 1, 1, 2, 2, 1, 1, 0, 0, 0, 1, 1, -695, 4);
        x.begin();
        x.remove(10);
        x.remove(20);
        Check.whole("a draft that is empty", x, 29, 3, 0, 0, 2, 2, 1, 1, 1, 1, 2, 1, 1, -695, 4);
        x.clearCommands();
        Check.due("whole(14)", x.whole(14), 0);
    }

    public static void main(String[] args) {
        get();
        drafted();
        entry();
        root();
        bed();
        whole();
        Check.end("ValuesTest");
    }
}
