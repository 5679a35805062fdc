/** A garden of pages with two roots that are written in turn. */
public final class PageGarden {
    /** Returned where there is no such value. */
    public static final int NONE = -1000;

    private static final int BEDS = 32;
    private static final int LEAF_ENTRIES = 4;
    // One more than a leaf may keep: the fifth entry stands here until the leaf is split.
    private static final int LEAF_ROOM = LEAF_ENTRIES + 1;
    private static final int SPLIT_ENTRIES = 2;
    private static final int MOST_LEAVES = 6;
    private static final int ROOTS = 2;
    private static final int READERS = 4;
    private static final int KEYS = 100;
    private static final int GREATEST_VALUE = 999;
    private static final int ALL_STEPS = 3;
    private static final int ABOVE_ALL_COUNTS = 2147483647;
    private static final int SAVED_STATES = 4;
    private static final int TEXT_BYTES = 150;
    private static final int GREATEST_BYTE = 127;

    private static final int WILD = 0;
    private static final int USED = 1;
    private static final int FREED = 2;

    private static final int LEAF = 0;
    private static final int DIRECTORY = 1;

    private static final int FINE = 0;
    private static final int WRONG_INDEX = 1;
    private static final int WRONG_ARGUMENT = 2;
    private static final int WRONG_STATE = 3;

    private static final int ENTRY_PARTS = 4;
    private static final int ROOT_PARTS = 4;
    private static final int READER_PARTS = 3;
    private static final int BED_PARTS = 6;
    private static final int WHOLE_PARTS = 15;
    private static final int TEXT_LENGTH_PART = 14;

    private static final int MANY_LEAVES = 1;
    private static final int FEW_BEDS = 2;

    private static final int FAULT_BASE = -10;
    private static final long DIGEST_START = 43518L;

    private static final Command[] COMMANDS = Command.values();

    private final Garden garden = new Garden();
    private final History history = new History();
    private final CommandText text = new CommandText();

    public PageGarden() {
    }

    // ---- drafts

    public int begin() throws IllegalStateException {
        refuse(garden.beginFault());
        history.save(garden);
        return garden.beginDraft();
    }

    public int put(int key, int value) throws IllegalArgumentException, IllegalStateException {
        refuse(garden.putFault(key, value));
        history.save(garden);
        return garden.putEntry(key, value);
    }

    public int remove(int key) throws IllegalArgumentException, IllegalStateException {
        refuse(garden.removeFault(key));
        history.save(garden);
        return garden.removeEntry(key);
    }

    public int commit(int steps) throws IllegalArgumentException, IllegalStateException {
        refuse(garden.commitFault(steps));
        history.save(garden);
        return garden.commitDraft(steps);
    }

    public int abort() throws IllegalStateException {
        refuse(garden.abortFault());
        history.save(garden);
        return garden.dropDraft();
    }

    // ---- readers

    public int open() throws IllegalStateException {
        refuse(garden.openFault());
        history.save(garden);
        return garden.openReader();
    }

    public int close(int reader) throws IndexOutOfBoundsException, IllegalStateException {
        refuse(garden.openReaderFault(reader));
        history.save(garden);
        return garden.closeReader(reader);
    }

    // ---- values

    public int get(int key) throws IllegalArgumentException {
        refuse(keyFault(key));
        return garden.currentValue(key);
    }

    public int drafted(int key) throws IllegalArgumentException, IllegalStateException {
        refuse(garden.draftedFault(key));
        return garden.draftedValue(key);
    }

    public int read(int reader, int key)
            throws IndexOutOfBoundsException, IllegalArgumentException, IllegalStateException {
        refuse(garden.readFault(reader, key));
        return garden.readerValue(reader, key);
    }

    public int entry(int rank, int what) throws IndexOutOfBoundsException, IllegalArgumentException {
        refuse(partFault(rank, garden.currentEntries(), what, ENTRY_PARTS));
        return garden.entryPart(rank, what);
    }

    public int root(int root, int what) throws IndexOutOfBoundsException, IllegalArgumentException {
        refuse(partFault(root, ROOTS, what, ROOT_PARTS));
        return garden.rootPart(root, what);
    }

    public int reader(int reader, int what) throws IndexOutOfBoundsException, IllegalArgumentException {
        refuse(partFault(reader, READERS, what, READER_PARTS));
        return garden.readerPart(reader, what);
    }

    public int bed(int bed, int what) throws IndexOutOfBoundsException, IllegalArgumentException {
        refuse(partFault(bed, BEDS, what, BED_PARTS));
        return garden.bedPart(bed, what);
    }

    public int whole(int what) throws IllegalArgumentException {
        refuse(isBelow(what, WHOLE_PARTS) ? FINE : WRONG_ARGUMENT);
        return what == TEXT_LENGTH_PART ? text.length : garden.wholePart(what);
    }

    // ---- what if, which changes nothing

    public int nextBed() {
        return garden.bedToDig();
    }

    public int bedsFor(int key) throws IllegalArgumentException, IllegalStateException {
        refuse(garden.draftedFault(key));
        return garden.digsToPut(key);
    }

    public int reason(int key) throws IllegalArgumentException, IllegalStateException {
        refuse(garden.draftedFault(key));
        return garden.hindranceToPut(key);
    }

    public int neededWithout(int reader) throws IndexOutOfBoundsException, IllegalStateException {
        refuse(garden.openReaderFault(reader));
        return garden.neededCountBut(reader);
    }

    public int changedSince(int reader) throws IndexOutOfBoundsException, IllegalStateException {
        refuse(garden.openReaderFault(reader));
        return garden.differencesTo(reader);
    }

    // ---- command text, undo and checksum

    public int type(int value) throws IllegalArgumentException, IllegalStateException {
        refuse(text.appendFault(value));
        return text.append(value);
    }

    public int clearCommands() {
        return text.clear();
    }

    public int runCommands() {
        int fault = text.findFault();
        if (fault != NONE) {
            return FAULT_BASE - fault;
        }
        history.save(garden);
        text.rewind();
        int done = 0;
        while (done < TEXT_BYTES && text.scanCommand() && faultOf(text.command) == FINE) {
            perform(text.command);
            done++;
        }
        return done;
    }

    public int undo() throws IllegalStateException {
        refuse(history.count > 0 ? FINE : WRONG_STATE);
        return history.restore(garden);
    }

    public long digest() {
        long hash = mixed(DIGEST_START, history.count);
        for (int what = 0; what < WHOLE_PARTS; what++) {
            hash = mixed(hash, whole(what));
        }
        hash = withRoots(hash);
        hash = withReaders(hash);
        hash = withBeds(hash);
        hash = withEntries(hash);
        hash = mixed(hash, nextBed());
        return withDraft(hash);
    }

    // ---- helpers

    private long withRoots(long start) {
        long hash = start;
        for (int root = 0; root < ROOTS; root++) {
            for (int what = 0; what < ROOT_PARTS; what++) {
                hash = mixed(hash, garden.rootPart(root, what));
            }
        }
        return hash;
    }

    private long withReaders(long start) {
        long hash = start;
        for (int reader = 0; reader < READERS; reader++) {
            for (int what = 0; what < READER_PARTS; what++) {
                hash = mixed(hash, garden.readerPart(reader, what));
            }
        }
        return hash;
    }

    private long withBeds(long start) {
        long hash = start;
        for (int bed = 0; bed < BEDS; bed++) {
            for (int what = 0; what < BED_PARTS; what++) {
                hash = mixed(hash, garden.bedPart(bed, what));
            }
        }
        return hash;
    }

    private long withEntries(long start) {
        long hash = start;
        int entries = garden.currentEntries();
        for (int rank = 0; rank < entries; rank++) {
            for (int what = 0; what < ENTRY_PARTS; what++) {
                hash = mixed(hash, garden.entryPart(rank, what));
            }
        }
        return hash;
    }

    private long withDraft(long start) {
        long hash = start;
        if (garden.drafting) {
            for (int key = 0; key < KEYS; key++) {
                hash = mixed(hash, garden.draftedValue(key));
            }
        }
        return hash;
    }

    private static long mixed(long hash, long value) {
        return 31L * hash + value;
    }

    private int faultOf(Command command) {
        if (command == null) {
            return WRONG_STATE;
        }
        switch (command) {
            case BEGIN:
                return garden.beginFault();
            case PUT:
                return garden.putFault(text.first, text.second);
            case DROP:
                return garden.removeFault(text.first);
            case COMMIT:
                return garden.commitFault(text.first);
            case ABORT:
                return garden.abortFault();
            case OPEN:
                return garden.openFault();
            case CLOSE:
                return garden.openReaderFault(text.first);
            default:
                return WRONG_STATE;
        }
    }

    private void perform(Command command) {
        if (command == null) {
            return;
        }
        switch (command) {
            case BEGIN:
                garden.beginDraft();
                break;
            case PUT:
                garden.putEntry(text.first, text.second);
                break;
            case DROP:
                garden.removeEntry(text.first);
                break;
            case COMMIT:
                garden.commitDraft(text.first);
                break;
            case ABORT:
                garden.dropDraft();
                break;
            case OPEN:
                garden.openReader();
                break;
            case CLOSE:
                garden.closeReader(text.first);
                break;
            default:
                break;
        }
    }

    private static void refuse(int fault) {
        if (fault == WRONG_INDEX) {
            throw new IndexOutOfBoundsException("there is no such thing");
        }
        if (fault == WRONG_ARGUMENT) {
            throw new IllegalArgumentException("an argument is out of its range");
        }
        if (fault == WRONG_STATE) {
            throw new IllegalStateException("the garden's state does not allow it");
        }
    }

    private static int partFault(int index, int count, int what, int parts) {
        if (!isBelow(index, count)) {
            return WRONG_INDEX;
        }
        return isBelow(what, parts) ? FINE : WRONG_ARGUMENT;
    }

    private static int keyFault(int key) {
        return isBelow(key, KEYS) ? FINE : WRONG_ARGUMENT;
    }

    private static boolean isBelow(int number, int bound) {
        return number >= 0 && number < bound;
    }

    private static int one(boolean condition) {
        return condition ? 1 : 0;
    }

    // An index that no row has reads as NONE, so that a lookup that found nothing can be passed on.
    private static int cell(int[] row, int index) {
        return index >= 0 && index < row.length ? row[index] : NONE;
    }

    private static void setCell(int[] row, int index, int value) {
        if (index >= 0 && index < row.length) {
            row[index] = value;
        }
    }

    private static void copyRow(int[] from, int[] to) {
        for (int index = 0; index < from.length && index < to.length; index++) {
            to[index] = from[index];
        }
    }

    private static void fillRow(int[] row, int value) {
        for (int index = 0; index < row.length; index++) {
            row[index] = value;
        }
    }

    /** The commands of a command text. */
    private enum Command {
        BEGIN("begin", 0),
        PUT("put", 2),
        DROP("drop", 1),
        COMMIT("commit", 1),
        ABORT("abort", 0),
        OPEN("open", 0),
        CLOSE("close", 1);

        private final String word;
        private final int numbers;

        Command(String word, int numbers) {
            this.word = word;
            this.numbers = numbers;
        }
    }

    /** The beds and the pages that they hold. */
    private static final class Beds {
        private final int[] states = new int[BEDS];
        private final int[] kinds = new int[BEDS];
        private final int[] sizes = new int[BEDS];
        private final int[] freeings = new int[BEDS];
        private final int[] fresh = new int[BEDS];
        private final int[] left = new int[BEDS];
        private final int[] keys = new int[BEDS * LEAF_ROOM];
        private final int[] values = new int[BEDS * LEAF_ROOM];
        private final int[] leaves = new int[BEDS * MOST_LEAVES];

        Beds() {
            fillRow(kinds, NONE);
            fillRow(sizes, NONE);
            fillRow(freeings, NONE);
        }

        void copyFrom(Beds other) {
            copyRow(other.states, states);
            copyRow(other.kinds, kinds);
            copyRow(other.sizes, sizes);
            copyRow(other.freeings, freeings);
            copyRow(other.fresh, fresh);
            copyRow(other.left, left);
            copyRow(other.keys, keys);
            copyRow(other.values, values);
            copyRow(other.leaves, leaves);
        }

        int sizeOf(int bed) {
            return bed >= 0 && bed < sizes.length ? sizes[bed] : NONE;
        }

        boolean isFresh(int bed) {
            return bed >= 0 && bed < fresh.length && fresh[bed] == 1;
        }

        int part(int bed, int what, int needed) {
            switch (what) {
                case 0:
                    return cell(states, bed);
                case 1:
                    return cell(kinds, bed);
                case 2:
                    return cell(sizes, bed);
                case 3:
                    return cell(freeings, bed);
                case 4:
                    return one(canBeDug(bed, needed));
                case 5:
                    return cell(fresh, bed);
                default:
                    return NONE;
            }
        }

        int countInState(int state) {
            int count = 0;
            for (int bed = 0; bed < BEDS; bed++) {
                count += one(states[bed] == state);
            }
            return count;
        }

        int countFresh() {
            int count = 0;
            for (int bed = 0; bed < BEDS; bed++) {
                count += fresh[bed];
            }
            return count;
        }

        int countLeft() {
            int count = 0;
            for (int bed = 0; bed < BEDS; bed++) {
                count += left[bed];
            }
            return count;
        }

        // ---- digging, leaving and freeing

        boolean canBeDug(int bed, int needed) {
            return bed >= 0 && bed < BEDS && states[bed] == FREED && freeings[bed] <= needed;
        }

        int countFreedToDig(int needed) {
            int count = 0;
            for (int bed = 0; bed < BEDS; bed++) {
                count += one(canBeDug(bed, needed));
            }
            return count;
        }

        int bedToDig(int needed) {
            int oldest = NONE;
            int least = NONE;
            for (int bed = 0; bed < BEDS; bed++) {
                if (canBeDug(bed, needed) && (oldest == NONE || freeings[bed] < least)) {
                    oldest = bed;
                    least = freeings[bed];
                }
            }
            return oldest == NONE ? lowestWild() : oldest;
        }

        private int lowestWild() {
            for (int bed = 0; bed < BEDS; bed++) {
                if (states[bed] == WILD) {
                    return bed;
                }
            }
            return NONE;
        }

        void useFresh(int bed, int kind) {
            setCell(states, bed, USED);
            setCell(kinds, bed, kind);
            setCell(sizes, bed, 0);
            setCell(freeings, bed, NONE);
            setCell(fresh, bed, 1);
        }

        // A bed that is new in the draft is in no root, so nobody can need it.
        void leave(int bed) {
            if (isFresh(bed)) {
                makeWild(bed);
            } else {
                setCell(left, bed, 1);
            }
        }

        private void makeWild(int bed) {
            setCell(states, bed, WILD);
            setCell(kinds, bed, NONE);
            setCell(sizes, bed, NONE);
            setCell(freeings, bed, NONE);
            setCell(fresh, bed, 0);
        }

        int freeLeft(int count) {
            int freed = 0;
            for (int bed = 0; bed < BEDS; bed++) {
                if (left[bed] == 1) {
                    states[bed] = FREED;
                    freeings[bed] = count;
                    left[bed] = 0;
                    freed++;
                }
            }
            return freed;
        }

        void keepFresh() {
            fillRow(fresh, 0);
        }

        int dropFresh() {
            int dropped = 0;
            for (int bed = 0; bed < BEDS; bed++) {
                if (fresh[bed] == 1) {
                    makeWild(bed);
                    dropped++;
                }
            }
            fillRow(left, 0);
            return dropped;
        }

        // ---- directories

        int leafAt(int directory, int place) {
            int slot = directory * MOST_LEAVES + place;
            return place >= 0 && place < MOST_LEAVES && slot >= 0 && slot < leaves.length
                    ? leaves[slot] : NONE;
        }

        void setLeaf(int directory, int place, int leaf) {
            int slot = directory * MOST_LEAVES + place;
            if (place >= 0 && place < MOST_LEAVES && slot >= 0 && slot < leaves.length) {
                leaves[slot] = leaf;
            }
        }

        void insertLeaf(int directory, int place, int leaf) {
            int size = sizeOf(directory);
            for (int at = size; at > place; at--) {
                setLeaf(directory, at, leafAt(directory, at - 1));
            }
            setLeaf(directory, place, leaf);
            setCell(sizes, directory, size + 1);
        }

        void cutLeaf(int directory, int place) {
            int size = sizeOf(directory);
            for (int at = place; at < size - 1; at++) {
                setLeaf(directory, at, leafAt(directory, at + 1));
            }
            setCell(sizes, directory, size - 1);
        }

        void copyDirectory(int from, int to) {
            int size = sizeOf(from);
            for (int place = 0; place < size; place++) {
                setLeaf(to, place, leafAt(from, place));
            }
            setCell(sizes, to, size);
        }

        /** The place of the leaf that has the key or would get it; NONE if there is no leaf. */
        int leafPlace(int directory, int key) {
            int size = sizeOf(directory);
            int found = size > 0 ? 0 : NONE;
            for (int place = 1; place < size; place++) {
                if (keyAt(leafAt(directory, place), 0) <= key) {
                    found = place;
                }
            }
            return found;
        }

        int valueIn(int directory, int key) {
            int leaf = leafAt(directory, leafPlace(directory, key));
            return valueAt(leaf, entryPlace(leaf, key));
        }

        int entriesIn(int directory) {
            int entries = 0;
            int size = sizeOf(directory);
            for (int place = 0; place < size; place++) {
                entries += sizeOf(leafAt(directory, place));
            }
            return entries;
        }

        int sumIn(int directory) {
            int sum = 0;
            int size = sizeOf(directory);
            for (int place = 0; place < size; place++) {
                sum += sumOfLeaf(leafAt(directory, place));
            }
            return sum;
        }

        int entryPartIn(int directory, int rank, int what) {
            int rest = rank;
            int size = sizeOf(directory);
            for (int place = 0; place < size; place++) {
                int leaf = leafAt(directory, place);
                if (rest < sizeOf(leaf)) {
                    return leafPart(leaf, rest, what);
                }
                rest -= sizeOf(leaf);
            }
            return NONE;
        }

        // ---- leaves

        int keyAt(int leaf, int place) {
            int slot = leaf * LEAF_ROOM + place;
            return place >= 0 && place < LEAF_ROOM && slot >= 0 && slot < keys.length
                    ? keys[slot] : NONE;
        }

        int valueAt(int leaf, int place) {
            int slot = leaf * LEAF_ROOM + place;
            return place >= 0 && place < LEAF_ROOM && slot >= 0 && slot < values.length
                    ? values[slot] : NONE;
        }

        private int leafPart(int leaf, int place, int what) {
            switch (what) {
                case 0:
                    return keyAt(leaf, place);
                case 1:
                    return valueAt(leaf, place);
                case 2:
                    return leaf;
                case 3:
                    return place;
                default:
                    return NONE;
            }
        }

        int sumOfLeaf(int leaf) {
            int sum = 0;
            int size = sizeOf(leaf);
            for (int place = 0; place < size; place++) {
                sum += valueAt(leaf, place);
            }
            return sum;
        }

        int entryPlace(int leaf, int key) {
            int size = sizeOf(leaf);
            for (int place = 0; place < size; place++) {
                if (keyAt(leaf, place) == key) {
                    return place;
                }
            }
            return NONE;
        }

        void setEntry(int leaf, int place, int key, int value) {
            if (leaf >= 0 && leaf < BEDS && place >= 0 && place < LEAF_ROOM) {
                keys[leaf * LEAF_ROOM + place] = key;
                values[leaf * LEAF_ROOM + place] = value;
            }
        }

        private void moveEntry(int from, int fromPlace, int to, int toPlace) {
            setEntry(to, toPlace, keyAt(from, fromPlace), valueAt(from, fromPlace));
        }

        void insertEntry(int leaf, int key, int value) {
            int size = sizeOf(leaf);
            int place = size;
            while (place > 0 && keyAt(leaf, place - 1) > key) {
                moveEntry(leaf, place - 1, leaf, place);
                place--;
            }
            setEntry(leaf, place, key, value);
            setCell(sizes, leaf, size + 1);
        }

        void cutEntry(int leaf, int place) {
            int size = sizeOf(leaf);
            for (int at = place; at < size - 1; at++) {
                moveEntry(leaf, at + 1, leaf, at);
            }
            setCell(sizes, leaf, size - 1);
        }

        void copyLeaf(int from, int to) {
            int size = sizeOf(from);
            for (int place = 0; place < size; place++) {
                moveEntry(from, place, to, place);
            }
            setCell(sizes, to, size);
        }

        /** Moves the last entries of an overfull leaf into an empty one. */
        void splitLeaf(int leaf, int behind) {
            int kept = sizeOf(leaf) - SPLIT_ENTRIES;
            for (int place = 0; place < SPLIT_ENTRIES; place++) {
                moveEntry(leaf, kept + place, behind, place);
            }
            setCell(sizes, leaf, kept);
            setCell(sizes, behind, SPLIT_ENTRIES);
        }
    }

    /** The whole state but the command text and the undo stack. */
    private static final class Garden {
        private final Beds beds = new Beds();
        private final int[] rootCounts = new int[ROOTS];
        private final int[] rootBeds = new int[ROOTS];
        private final int[] rootWholes = new int[ROOTS];
        private final int[] readerCounts = new int[READERS];
        private final int[] readerBeds = new int[READERS];
        private boolean drafting = false;
        private int draftBed = NONE;
        private int wholeCommits = 0;
        private int lostDrafts = 0;

        Garden() {
            fillRow(readerCounts, NONE);
            fillRow(readerBeds, NONE);
            beds.useFresh(0, DIRECTORY);
            beds.keepFresh();
            setCell(rootCounts, 0, 1);
            setCell(rootWholes, 0, 1);
            setCell(rootBeds, 1, NONE);
        }

        void copyFrom(Garden other) {
            beds.copyFrom(other.beds);
            copyRow(other.rootCounts, rootCounts);
            copyRow(other.rootBeds, rootBeds);
            copyRow(other.rootWholes, rootWholes);
            copyRow(other.readerCounts, readerCounts);
            copyRow(other.readerBeds, readerBeds);
            drafting = other.drafting;
            draftBed = other.draftBed;
            wholeCommits = other.wholeCommits;
            lostDrafts = other.lostDrafts;
        }

        // ---- roots and the needed count

        int currentRoot() {
            int current = 0;
            int greatest = NONE;
            for (int root = 0; root < ROOTS; root++) {
                if (rootWholes[root] == 1 && rootCounts[root] > greatest) {
                    current = root;
                    greatest = rootCounts[root];
                }
            }
            return current;
        }

        int currentDirectory() {
            return cell(rootBeds, currentRoot());
        }

        int currentCount() {
            return cell(rootCounts, currentRoot());
        }

        int neededCount() {
            return neededCountBut(NONE);
        }

        /** The needed count, as if the given reader was closed. */
        int neededCountBut(int closed) {
            int least = ABOVE_ALL_COUNTS;
            for (int root = 0; root < ROOTS; root++) {
                if (rootWholes[root] == 1) {
                    least = Math.min(least, rootCounts[root]);
                }
            }
            for (int reader = 0; reader < READERS; reader++) {
                if (reader != closed && readerCounts[reader] != NONE) {
                    least = Math.min(least, readerCounts[reader]);
                }
            }
            return least;
        }

        // ---- what a call is refused for

        int beginFault() {
            return drafting ? WRONG_STATE : FINE;
        }

        int putFault(int key, int value) {
            if (!isBelow(key, KEYS) || value < -GREATEST_VALUE || value > GREATEST_VALUE) {
                return WRONG_ARGUMENT;
            }
            return drafting && hindranceToPut(key) == 0 ? FINE : WRONG_STATE;
        }

        int removeFault(int key) {
            if (!isBelow(key, KEYS)) {
                return WRONG_ARGUMENT;
            }
            return drafting && draftedValue(key) != NONE && digsToRemove(key) <= bedsToDig()
                    ? FINE : WRONG_STATE;
        }

        int commitFault(int steps) {
            if (!isBelow(steps, ALL_STEPS + 1)) {
                return WRONG_ARGUMENT;
            }
            return drafting ? FINE : WRONG_STATE;
        }

        int abortFault() {
            return drafting ? FINE : WRONG_STATE;
        }

        int openFault() {
            return lowestClosedReader() == NONE ? WRONG_STATE : FINE;
        }

        int openReaderFault(int reader) {
            if (!isBelow(reader, READERS)) {
                return WRONG_INDEX;
            }
            return isOpen(reader) ? FINE : WRONG_STATE;
        }

        int draftedFault(int key) {
            if (!isBelow(key, KEYS)) {
                return WRONG_ARGUMENT;
            }
            return drafting ? FINE : WRONG_STATE;
        }

        int readFault(int reader, int key) {
            if (!isBelow(reader, READERS)) {
                return WRONG_INDEX;
            }
            if (!isBelow(key, KEYS)) {
                return WRONG_ARGUMENT;
            }
            return isOpen(reader) ? FINE : WRONG_STATE;
        }

        // ---- drafts

        int beginDraft() {
            drafting = true;
            draftBed = currentDirectory();
            return currentCount();
        }

        int putEntry(int key, int value) {
            ownDirectory();
            int place = beds.leafPlace(draftBed, key);
            if (place == NONE) {
                int made = dig(LEAF);
                beds.insertEntry(made, key, value);
                beds.insertLeaf(draftBed, 0, made);
                return NONE;
            }
            int leaf = ownLeaf(place);
            int at = beds.entryPlace(leaf, key);
            if (at != NONE) {
                int previous = beds.valueAt(leaf, at);
                beds.setEntry(leaf, at, key, value);
                return previous;
            }
            beds.insertEntry(leaf, key, value);
            if (beds.sizeOf(leaf) > LEAF_ENTRIES) {
                int behind = dig(LEAF);
                beds.splitLeaf(leaf, behind);
                beds.insertLeaf(draftBed, place + 1, behind);
            }
            return NONE;
        }

        int removeEntry(int key) {
            ownDirectory();
            int place = beds.leafPlace(draftBed, key);
            int leaf = beds.leafAt(draftBed, place);
            int value = beds.valueAt(leaf, beds.entryPlace(leaf, key));
            if (beds.sizeOf(leaf) == 1) {
                beds.cutLeaf(draftBed, place);
                beds.leave(leaf);
            } else {
                int own = ownLeaf(place);
                beds.cutEntry(own, beds.entryPlace(own, key));
            }
            return value;
        }

        private void ownDirectory() {
            if (!beds.isFresh(draftBed)) {
                int copy = dig(DIRECTORY);
                beds.copyDirectory(draftBed, copy);
                beds.leave(draftBed);
                draftBed = copy;
            }
        }

        private int ownLeaf(int place) {
            int leaf = beds.leafAt(draftBed, place);
            if (beds.isFresh(leaf)) {
                return leaf;
            }
            int copy = dig(LEAF);
            beds.copyLeaf(leaf, copy);
            beds.leave(leaf);
            beds.setLeaf(draftBed, place, copy);
            return copy;
        }

        private int dig(int kind) {
            int bed = beds.bedToDig(neededCountBut(NONE));
            beds.useFresh(bed, kind);
            return bed;
        }

        int commitDraft(int steps) {
            if (!beds.isFresh(draftBed)) {
                endDraft();
                return 0;
            }
            writeAsleepRoot(steps);
            if (steps < ALL_STEPS) {
                lostDrafts++;
                dropDraft();
                return NONE;
            }
            wholeCommits++;
            beds.keepFresh();
            endDraft();
            return beds.freeLeft(currentCount());
        }

        private void writeAsleepRoot(int steps) {
            int asleep = 1 - currentRoot();
            int count = currentCount() + 1;
            if (steps >= 1) {
                setCell(rootWholes, asleep, 0);
            }
            if (steps >= 2) {
                setCell(rootBeds, asleep, draftBed);
                setCell(rootCounts, asleep, count);
            }
            if (steps >= ALL_STEPS) {
                setCell(rootWholes, asleep, 1);
            }
        }

        int dropDraft() {
            endDraft();
            return beds.dropFresh();
        }

        private void endDraft() {
            drafting = false;
            draftBed = NONE;
        }

        // ---- readers

        boolean isOpen(int reader) {
            return cell(readerCounts, reader) != NONE;
        }

        private int lowestClosedReader() {
            for (int reader = 0; reader < READERS; reader++) {
                if (!isOpen(reader)) {
                    return reader;
                }
            }
            return NONE;
        }

        int openReader() {
            int reader = lowestClosedReader();
            setCell(readerCounts, reader, currentCount());
            setCell(readerBeds, reader, currentDirectory());
            return reader;
        }

        int closeReader(int reader) {
            int before = beds.countFreedToDig(neededCount());
            setCell(readerCounts, reader, NONE);
            setCell(readerBeds, reader, NONE);
            return beds.countFreedToDig(neededCount()) - before;
        }

        // ---- values

        int currentValue(int key) {
            return beds.valueIn(currentDirectory(), key);
        }

        int draftedValue(int key) {
            return beds.valueIn(draftBed, key);
        }

        int readerValue(int reader, int key) {
            return beds.valueIn(cell(readerBeds, reader), key);
        }

        int currentEntries() {
            return beds.entriesIn(currentDirectory());
        }

        int entryPart(int rank, int what) {
            return beds.entryPartIn(currentDirectory(), rank, what);
        }

        int rootPart(int root, int what) {
            switch (what) {
                case 0:
                    return cell(rootCounts, root);
                case 1:
                    return cell(rootBeds, root);
                case 2:
                    return cell(rootWholes, root);
                case 3:
                    return one(root == currentRoot());
                default:
                    return NONE;
            }
        }

        int readerPart(int reader, int what) {
            if (!isOpen(reader)) {
                return NONE;
            }
            switch (what) {
                case 0:
                    return cell(readerCounts, reader);
                case 1:
                    return cell(readerBeds, reader);
                case 2:
                    return beds.entriesIn(cell(readerBeds, reader));
                default:
                    return NONE;
            }
        }

        int bedPart(int bed, int what) {
            return beds.part(bed, what, neededCount());
        }

        int wholePart(int what) {
            switch (what) {
                case 0:
                    return beds.countInState(WILD);
                case 1:
                    return beds.countInState(USED);
                case 2:
                    return beds.countInState(FREED);
                case 3:
                    return beds.countFreedToDig(neededCount());
                case 4:
                    return neededCount();
                case 5:
                    return currentEntries();
                case 6:
                    return beds.sizeOf(currentDirectory());
                case 7:
                    return openReaders();
                case 8:
                    return one(drafting);
                case 9:
                    return beds.countFresh();
                case 10:
                    return beds.countLeft();
                case 11:
                    return wholeCommits;
                case 12:
                    return lostDrafts;
                case 13:
                    return beds.sumIn(currentDirectory());
                default:
                    return NONE;
            }
        }

        private int openReaders() {
            int count = 0;
            for (int reader = 0; reader < READERS; reader++) {
                count += one(isOpen(reader));
            }
            return count;
        }

        // ---- what if

        int bedToDig() {
            return beds.bedToDig(neededCount());
        }

        private int bedsToDig() {
            return beds.countFreedToDig(neededCount()) + beds.countInState(WILD);
        }

        private int digsForDirectory() {
            return one(!beds.isFresh(draftBed));
        }

        int digsToPut(int key) {
            int place = beds.leafPlace(draftBed, key);
            if (place == NONE) {
                return digsForDirectory() + 1;
            }
            int leaf = beds.leafAt(draftBed, place);
            int digs = digsForDirectory() + one(!beds.isFresh(leaf));
            if (beds.entryPlace(leaf, key) != NONE || beds.sizeOf(leaf) < LEAF_ENTRIES) {
                return digs;
            }
            return beds.sizeOf(draftBed) < MOST_LEAVES ? digs + 1 : NONE;
        }

        private int digsToRemove(int key) {
            int leaf = beds.leafAt(draftBed, beds.leafPlace(draftBed, key));
            return digsForDirectory() + one(beds.sizeOf(leaf) > 1 && !beds.isFresh(leaf));
        }

        /** 0 if a put of the key can be done; otherwise what stands against it. */
        int hindranceToPut(int key) {
            int digs = digsToPut(key);
            if (digs == NONE) {
                return MANY_LEAVES;
            }
            return digs <= bedsToDig() ? 0 : FEW_BEDS;
        }

        int differencesTo(int reader) {
            int count = 0;
            for (int key = 0; key < KEYS; key++) {
                count += one(readerValue(reader, key) != currentValue(key));
            }
            return count;
        }
    }

    /** The undo stack: a ring of states that are made once and written over. */
    private static final class History {
        private final Garden[] states = new Garden[SAVED_STATES];
        private int count = 0;
        private int next = 0;

        History() {
            for (int place = 0; place < SAVED_STATES; place++) {
                states[place] = new Garden();
            }
        }

        void save(Garden garden) {
            Garden state = stateAt(next);
            if (state != null) {
                state.copyFrom(garden);
                next = next + 1 < SAVED_STATES ? next + 1 : 0;
                count = Math.min(count + 1, SAVED_STATES);
            }
        }

        int restore(Garden garden) {
            int latest = next > 0 ? next - 1 : SAVED_STATES - 1;
            Garden state = stateAt(latest);
            if (state != null && count > 0) {
                garden.copyFrom(state);
                next = latest;
                count--;
            }
            return count;
        }

        private Garden stateAt(int place) {
            return place >= 0 && place < states.length ? states[place] : null;
        }
    }

    /** The command text, with a scan that goes through it command by command. */
    private static final class CommandText {
        private static final int END = -1;
        private static final int SPACE = 32;
        private static final int SEMICOLON = 59;
        private static final int MOST_DIGITS = 3;

        private final int[] bytes = new int[TEXT_BYTES];
        private int length = 0;
        private int place = 0;
        private int fault = NONE;
        private Command command = null;
        private int first = 0;
        private int second = 0;

        int appendFault(int value) {
            if (value < 0 || value > GREATEST_BYTE) {
                return WRONG_ARGUMENT;
            }
            return length < TEXT_BYTES ? FINE : WRONG_STATE;
        }

        int append(int value) {
            setCell(bytes, length, value);
            length++;
            return length;
        }

        int clear() {
            int before = length;
            length = 0;
            return before;
        }

        void rewind() {
            place = 0;
            fault = NONE;
        }

        int findFault() {
            rewind();
            int commands = 0;
            while (commands < TEXT_BYTES && scanCommand()) {
                commands++;
            }
            return fault;
        }

        /** Goes behind the next command; false at the end of the text and at a fault. */
        boolean scanCommand() {
            skipSpaces();
            if (place >= length) {
                return false;
            }
            if (!isLetter(byteAt(place))) {
                return failAt(place);
            }
            int start = place;
            skipLetters();
            command = commandNamed(start);
            if (command == null) {
                return failAt(start);
            }
            return scanNumbers(command.numbers) && scanSemicolon();
        }

        private boolean scanNumbers(int numbers) {
            if (numbers > 0) {
                first = scanNumber();
            }
            if (numbers > 1 && fault == NONE) {
                second = scanNumber();
            }
            return fault == NONE;
        }

        private int scanNumber() {
            if (byteAt(place) != SPACE) {
                failAt(place);
                return 0;
            }
            skipSpaces();
            if (!isDigit(byteAt(place))) {
                failAt(place);
                return 0;
            }
            int number = 0;
            for (int digits = 0; digits < MOST_DIGITS && isDigit(byteAt(place)); digits++) {
                number = 10 * number + byteAt(place) - '0';
                place++;
            }
            return number;
        }

        private boolean scanSemicolon() {
            skipSpaces();
            if (byteAt(place) != SEMICOLON) {
                return failAt(place);
            }
            place++;
            return true;
        }

        private boolean failAt(int index) {
            fault = index;
            return false;
        }

        private void skipSpaces() {
            while (place < length && byteAt(place) == SPACE) {
                place++;
            }
        }

        private void skipLetters() {
            while (place < length && isLetter(byteAt(place))) {
                place++;
            }
        }

        private Command commandNamed(int start) {
            for (Command candidate : COMMANDS) {
                if (isWord(candidate.word, start)) {
                    return candidate;
                }
            }
            return null;
        }

        private boolean isWord(String word, int start) {
            if (word.length() != place - start) {
                return false;
            }
            for (int index = 0; index < word.length(); index++) {
                if (word.charAt(index) != byteAt(start + index)) {
                    return false;
                }
            }
            return true;
        }

        private int byteAt(int index) {
            return index >= 0 && index < length && index < TEXT_BYTES ? bytes[index] : END;
        }

        private static boolean isLetter(int value) {
            return value >= 'a' && value <= 'z';
        }

        private static boolean isDigit(int value) {
            return value >= '0' && value <= '9';
        }
    }
}
