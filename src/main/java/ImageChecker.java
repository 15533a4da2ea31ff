/** Checks the tables of a volume in five passes and mends them by rules. */
public final class ImageChecker {
    private static final int ROOT = 1;
    private static final int FILES = 24;
    private static final int BLOCKS = 200;
    private static final int FIXED_BLOCKS = 8;
    private static final int RUNS = 6;
    private static final int ENTRIES = 8;
    private static final int GREATEST_NAME = 255;
    private static final int NAMES_IN_PATH = 8;
    private static final int PIECES = 64;
    private static final int PIECE_BYTES = 1024;
    private static final int LINKS_OF_EMPTY_FOLDER = 2;

    private static final int NO_KIND = 0;
    private static final int FOLDER = 2;
    private static final int LAST_KIND = 3;

    /** The numbers of a record, as the callers count them. */
    private static final int KIND = 0;
    private static final int SIZE = 1;
    private static final int LINKS = 2;
    private static final int BEHIND = 3;
    private static final int PARENT = 4;
    private static final int NUMBERS = 5;

    /** The numbers of a run, as the callers count them. */
    private static final int PIECE = 0;
    private static final int LENGTH = 1;
    private static final int BLOCK = 2;

    /** The numbers of an entry, as the callers count them. */
    private static final int NAME = 0;
    private static final int OF = 1;
    private static final int OF_KIND = 2;

    /** Runs and entries have three numbers each. */
    private static final int PARTS = 3;

    /** The kinds of bits, as the callers count them. */
    private static final int BLOCK_BITS = 0;
    private static final int FILE_BITS = 1;

    /** The numbers that are told, as the callers count them. */
    private static final int FREE_BLOCKS = 0;
    private static final int FREE_FILES = 1;
    private static final int FIRST_WAITING = 2;
    private static final int TOLD_NUMBERS = 3;

    private final Tables tables;
    private final boolean[] held;
    private final RecordPass records;
    private final FolderPass folders;
    private final HangingPass hanging;
    private final WaitingList waiting;

    public ImageChecker() {
        tables = new Tables();
        held = new boolean[FILES + 1];
        records = new RecordPass();
        folders = new FolderPass();
        hanging = new HangingPass();
        waiting = new WaitingList();
        tables.makeWhole();
    }

    public void clear() {
        tables.makeWhole();
        unmark(held);
    }

    public void set(int file, int what, int value) throws IllegalArgumentException {
        needFile(file);
        needPlace(what, NUMBERS);
        tables.putNumber(file, what, value);
    }

    public void run(int file, int k, int piece, int length, int block) throws IllegalArgumentException {
        needFile(file);
        needPlace(k, RUNS);
        tables.putRun(file, k, piece, length, block);
    }

    public void entry(int file, int k, int name, int of, int kind) throws IllegalArgumentException {
        needFile(file);
        needPlace(k, ENTRIES);
        tables.putEntry(file, k, name, of, kind);
    }

    public void hold(int file, boolean is) throws IllegalArgumentException {
        needFile(file);
        held[file] = is;
    }

    public void bit(int kind, int number, boolean taken) throws IllegalArgumentException {
        needBit(kind, number);
        tables.putBit(kind, number, taken ? 1 : 0);
    }

    public void tell(int what, int value) throws IllegalArgumentException {
        needPlace(what, TOLD_NUMBERS);
        tables.putTold(what, value);
    }

    public int check() {
        tables.remember();
        records.mend(tables);
        int mended = weightIfMended(1);
        folders.mend(tables);
        mended += weightIfMended(2);
        waiting.gather(tables, held);
        hanging.mend(tables, waiting, held);
        mended += weightIfMended(4);
        LinkPass.mend(tables, waiting);
        mended += weightIfMended(8);
        BitPass.mend(tables);
        mended += weightIfMended(16);
        return mended;
    }

    public int about(int file, int what) throws IllegalArgumentException {
        needFile(file);
        needPlace(what, NUMBERS);
        return tables.number(file, what);
    }

    public int runOf(int file, int k, int what) throws IllegalArgumentException {
        needFile(file);
        needPlace(k, RUNS);
        needPlace(what, PARTS);
        return tables.runPart(file, k, what);
    }

    public int entryOf(int file, int k, int what) throws IllegalArgumentException {
        needFile(file);
        needPlace(k, ENTRIES);
        needPlace(what, PARTS);
        return tables.entryPart(file, k, what);
    }

    public boolean isTaken(int kind, int number) throws IllegalArgumentException {
        needBit(kind, number);
        return tables.bitOf(kind, number) != 0;
    }

    public int told(int what) throws IllegalArgumentException {
        needPlace(what, TOLD_NUMBERS);
        return tables.toldNumber(what);
    }

    public int find(long path) {
        int file = ROOT;
        for (int place = 0; place < NAMES_IN_PATH; place++) {
            int name = (int) (path >>> (8 * place)) & GREATEST_NAME;
            if (name == 0) {
                return file;
            }
            file = fileNamed(file, name);
            if (!isFile(file)) {
                return 0;
            }
        }
        return file;
    }

    /** Entries matter in folders alone, so no name is there in anything else, the root too. */
    private int fileNamed(int folder, int name) {
        if (tables.number(folder, KIND) != FOLDER) {
            return 0;
        }
        int k = tables.placeOfName(folder, ENTRIES, name);
        return k < ENTRIES ? tables.entryPart(folder, k, OF) : 0;
    }

    /** A pass has mended only what is another number behind it, so its steps are not asked. */
    private int weightIfMended(int weight) {
        boolean mended = tables.differFromMemory();
        tables.remember();
        return mended ? weight : 0;
    }

    private static boolean isFile(int file) {
        return file >= ROOT && file <= FILES;
    }

    private static void unmark(boolean[] marks) {
        for (int i = 0; i < marks.length; i++) {
            marks[i] = false;
        }
    }

    private static void needFile(int file) {
        if (!isFile(file)) {
            throw new IllegalArgumentException("there is no such file");
        }
    }

    private static void needPlace(int place, int places) {
        if (place < 0 || place >= places) {
            throw new IllegalArgumentException("there is no such place");
        }
    }

    private static void needBit(int kind, int number) {
        boolean ofBlock = kind == BLOCK_BITS && number >= 1 && number <= BLOCKS;
        boolean ofFile = kind == FILE_BITS && isFile(number);
        if (!ofBlock && !ofFile) {
            throw new IllegalArgumentException("there is no such bit");
        }
    }

    /**
     * All numbers of the tables, in one row, so that they are remembered and compared at once.
     * Its callers hand it files, places and blocks that are there.
     */
    private static final class Tables {
        private static final int RUNS_AT = NUMBERS;
        private static final int ENTRIES_AT = RUNS_AT + RUNS * PARTS;
        private static final int CELLS_OF_FILE = ENTRIES_AT + ENTRIES * PARTS;
        private static final int BLOCK_BITS_AT = FILES * CELLS_OF_FILE;
        private static final int FILE_BITS_AT = BLOCK_BITS_AT + BLOCKS;
        private static final int TOLD_AT = FILE_BITS_AT + FILES;
        private static final int CELLS = TOLD_AT + TOLD_NUMBERS;

        private final int[] cells;
        private final int[] memory;

        Tables() {
            cells = new int[CELLS];
            memory = new int[CELLS];
        }

        void makeWhole() {
            wipeCells(0, CELLS);
            putNumber(ROOT, KIND, FOLDER);
            putNumber(ROOT, LINKS, LINKS_OF_EMPTY_FOLDER);
            putNumber(ROOT, PARENT, ROOT);
            for (int block = 1; block <= FIXED_BLOCKS; block++) {
                putBit(BLOCK_BITS, block, 1);
            }
            putBit(FILE_BITS, ROOT, 1);
            putTold(FREE_BLOCKS, BLOCKS - FIXED_BLOCKS);
            putTold(FREE_FILES, FILES - 1);
        }

        void remember() {
            System.arraycopy(cells, 0, memory, 0, CELLS);
        }

        boolean differFromMemory() {
            for (int cell = 0; cell < CELLS; cell++) {
                if (cells[cell] != memory[cell]) {
                    return true;
                }
            }
            return false;
        }

        int number(int file, int what) {
            return cells[fileCell(file) + what];
        }

        void putNumber(int file, int what, int value) {
            cells[fileCell(file) + what] = value;
        }

        int runPart(int file, int k, int part) {
            return cells[runCell(file, k) + part];
        }

        void putRun(int file, int k, int piece, int length, int block) {
            int cell = runCell(file, k);
            cells[cell + PIECE] = piece;
            cells[cell + LENGTH] = length;
            cells[cell + BLOCK] = block;
        }

        int entryPart(int file, int k, int part) {
            return cells[entryCell(file, k) + part];
        }

        void putEntry(int file, int k, int name, int of, int kind) {
            int cell = entryCell(file, k);
            cells[cell + NAME] = name;
            cells[cell + OF] = of;
            cells[cell + OF_KIND] = kind;
        }

        int bitOf(int kind, int number) {
            return cells[bitCell(kind, number)];
        }

        void putBit(int kind, int number, int value) {
            cells[bitCell(kind, number)] = value;
        }

        int toldNumber(int what) {
            return cells[TOLD_AT + what];
        }

        void putTold(int what, int value) {
            cells[TOLD_AT + what] = value;
        }

        void wipeFile(int file) {
            wipeCells(fileCell(file), fileCell(file) + CELLS_OF_FILE);
        }

        void wipeRunsFrom(int file, int k) {
            wipeCells(runCell(file, k), runCell(file, RUNS));
        }

        void wipeEntriesFrom(int file, int k) {
            wipeCells(entryCell(file, k), entryCell(file, ENTRIES));
        }

        /** The place of the first one of so many entries that has the name; their count if none has. */
        int placeOfName(int folder, int entries, int name) {
            for (int k = 0; k < entries; k++) {
                if (entryPart(folder, k, NAME) == name) {
                    return k;
                }
            }
            return entries;
        }

        int countEntriesFor(int file) {
            int count = 0;
            for (int folder = ROOT; folder <= FILES; folder++) {
                for (int k = 0; k < ENTRIES; k++) {
                    if (entryPart(folder, k, OF) == file) {
                        count++;
                    }
                }
            }
            return count;
        }

        void dropEntriesFor(int file) {
            for (int folder = ROOT; folder <= FILES; folder++) {
                int stayed = 0;
                for (int k = 0; k < ENTRIES; k++) {
                    if (entryPart(folder, k, OF) != file) {
                        moveEntry(folder, k, stayed);
                        stayed++;
                    }
                }
                wipeEntriesFrom(folder, stayed);
            }
        }

        private void moveEntry(int folder, int from, int to) {
            putEntry(folder, to, entryPart(folder, from, NAME), entryPart(folder, from, OF),
                    entryPart(folder, from, OF_KIND));
        }

        private void wipeCells(int from, int end) {
            for (int cell = from; cell < end; cell++) {
                cells[cell] = 0;
            }
        }

        private static int fileCell(int file) {
            return (file - 1) * CELLS_OF_FILE;
        }

        private static int runCell(int file, int k) {
            return (file - 1) * CELLS_OF_FILE + RUNS_AT + k * PARTS;
        }

        private static int entryCell(int file, int k) {
            return (file - 1) * CELLS_OF_FILE + ENTRIES_AT + k * PARTS;
        }

        private static int bitCell(int kind, int number) {
            return (kind == BLOCK_BITS ? BLOCK_BITS_AT : FILE_BITS_AT) + number - 1;
        }
    }

    /** Pass 1: records that can't be, and runs that lie nowhere or belong to others. */
    private static final class RecordPass {
        private final boolean[] inRuns;

        RecordPass() {
            inRuns = new boolean[BLOCKS + 1];
        }

        void mend(Tables tables) {
            unmark(inRuns);
            if (tables.number(ROOT, KIND) != FOLDER) {
                makeRootEmpty(tables);
            }
            for (int file = ROOT; file <= FILES; file++) {
                mendRecord(tables, file);
            }
        }

        private void makeRootEmpty(Tables tables) {
            tables.putNumber(ROOT, KIND, FOLDER);
            tables.putNumber(ROOT, SIZE, 0);
            tables.wipeRunsFrom(ROOT, 0);
            tables.wipeEntriesFrom(ROOT, 0);
        }

        private void mendRecord(Tables tables, int file) {
            int kind = tables.number(file, KIND);
            if (kind <= NO_KIND || kind > LAST_KIND) {
                tables.wipeFile(file);
                return;
            }
            mendSize(tables, file);
            mendRuns(tables, file);
            if (kind != FOLDER) {
                tables.wipeEntriesFrom(file, 0);
            }
        }

        private void mendSize(Tables tables, int file) {
            int size = tables.number(file, SIZE);
            if (size < 0 || size > PIECES * PIECE_BYTES) {
                tables.putNumber(file, SIZE, PIECE_BYTES * greatestEnd(tables, file));
            }
        }

        private int greatestEnd(Tables tables, int file) {
            int greatest = 0;
            for (int k = 0; k < RUNS; k++) {
                int piece = tables.runPart(file, k, PIECE);
                int length = tables.runPart(file, k, LENGTH);
                if (isRight(piece, length, tables.runPart(file, k, BLOCK))) {
                    greatest = Math.max(greatest, piece + length);
                }
            }
            return greatest;
        }

        private void mendRuns(Tables tables, int file) {
            int needed = (tables.number(file, SIZE) + PIECE_BYTES - 1) / PIECE_BYTES;
            int stayed = 0;
            int end = 0;
            for (int k = 0; k < RUNS; k++) {
                int piece = tables.runPart(file, k, PIECE);
                int length = tables.runPart(file, k, LENGTH);
                int block = tables.runPart(file, k, BLOCK);
                if (!isRight(piece, length, block)) {
                    continue;
                }
                length = Math.min(length, needed - piece);
                if (length < 1 || piece < end || isAnyInRuns(block, length)) {
                    continue;
                }
                markInRuns(block, length);
                tables.putRun(file, stayed, piece, length, block);
                stayed++;
                end = piece + length;
            }
            tables.wipeRunsFrom(file, stayed);
        }

        /** Compares with differences of small numbers, for sums of any ints could wrap. */
        private static boolean isRight(int piece, int length, int block) {
            return length >= 1 && length <= PIECES
                    && piece >= 0 && piece <= PIECES - length
                    && block > FIXED_BLOCKS && block <= BLOCKS + 1 - length;
        }

        private boolean isAnyInRuns(int block, int length) {
            for (int i = 0; i < length; i++) {
                if (inRuns[block + i]) {
                    return true;
                }
            }
            return false;
        }

        private void markInRuns(int block, int length) {
            for (int i = 0; i < length; i++) {
                inRuns[block + i] = true;
            }
        }
    }

    /** Pass 2: entries that can't be, or that lead to a folder a second time. */
    private static final class FolderPass {
        private final boolean[] hasEntry;

        FolderPass() {
            hasEntry = new boolean[FILES + 1];
        }

        void mend(Tables tables) {
            unmark(hasEntry);
            for (int file = ROOT; file <= FILES; file++) {
                if (tables.number(file, KIND) == FOLDER) {
                    mendFolder(tables, file);
                }
            }
        }

        private void mendFolder(Tables tables, int folder) {
            int stayed = 0;
            for (int k = 0; k < ENTRIES; k++) {
                int name = tables.entryPart(folder, k, NAME);
                int of = tables.entryPart(folder, k, OF);
                if (isNameRight(tables, folder, stayed, name) && mayLeadTo(tables, of)) {
                    hasEntry[of] = true;
                    tables.putEntry(folder, stayed, name, of, tables.number(of, KIND));
                    stayed++;
                }
            }
            tables.wipeEntriesFrom(folder, stayed);
        }

        private static boolean isNameRight(Tables tables, int folder, int stayed, int name) {
            return name >= 1 && name <= GREATEST_NAME
                    && tables.placeOfName(folder, stayed, name) == stayed;
        }

        private boolean mayLeadTo(Tables tables, int file) {
            if (!isFile(file) || file == ROOT) {
                return false;
            }
            int kind = tables.number(file, KIND);
            return kind != NO_KIND && !(kind == FOLDER && hasEntry[file]);
        }
    }

    /**
     * The files that wait rightly, as they are before pass 3 changes the list, and the order
     * in which those of them that are held wait on, which pass 4 needs behind that change.
     */
    private static final class WaitingList {
        private final boolean[] cameBefore;
        private final boolean[] waitsRightly;
        private final int[] waitOn;
        private int count;

        WaitingList() {
            cameBefore = new boolean[FILES + 1];
            waitsRightly = new boolean[FILES + 1];
            waitOn = new int[FILES];
            count = 0;
        }

        void gather(Tables tables, boolean[] held) {
            unmark(cameBefore);
            unmark(waitsRightly);
            count = 0;
            int file = tables.toldNumber(FIRST_WAITING);
            for (int step = 0; step < FILES && isFile(file) && !cameBefore[file]; step++) {
                cameBefore[file] = true;
                if (mayWait(tables, file)) {
                    waitsRightly[file] = true;
                    addIfHeld(file, held[file]);
                }
                file = tables.number(file, BEHIND);
            }
        }

        boolean isRightlyIn(int file) {
            return waitsRightly[file];
        }

        int size() {
            return count;
        }

        /** The file at a place among those that wait on, 0 behind the last one. */
        int fileAt(int place) {
            return place >= 0 && place < count ? waitOn[place] : 0;
        }

        private void addIfHeld(int file, boolean isHeld) {
            if (isHeld && count < FILES) {
                waitOn[count] = file;
                count++;
            }
        }

        private static boolean mayWait(Tables tables, int file) {
            int kind = tables.number(file, KIND);
            return kind != NO_KIND && kind != FOLDER
                    && tables.number(file, LINKS) == 0
                    && tables.countEntriesFor(file) == 0;
        }
    }

    /** Pass 3: files that hang nowhere. */
    private static final class HangingPass {
        private final boolean[] reached;
        private final int[] queue;
        private int queued;

        HangingPass() {
            reached = new boolean[FILES + 1];
            queue = new int[FILES];
            queued = 0;
        }

        void mend(Tables tables, WaitingList waiting, boolean[] held) {
            unmark(reached);
            reachFrom(tables, ROOT);
            for (int file = ROOT; file <= FILES; file++) {
                if (tables.number(file, KIND) == NO_KIND || reached[file]) {
                    continue;
                }
                if (!waiting.isRightlyIn(file)) {
                    hangInRoot(tables, file);
                } else if (!held[file]) {
                    tables.wipeFile(file);
                }
            }
        }

        /**
         * What this pass takes away lies in folders that are not reached, so that what has been
         * reached stays so, and only what a new entry leads to comes to it.
         */
        private void hangInRoot(Tables tables, int file) {
            tables.dropEntriesFor(file);
            int k = tables.placeOfName(ROOT, ENTRIES, 0);
            if (k >= ENTRIES) {
                tables.wipeFile(file);
                return;
            }
            tables.putEntry(ROOT, k, leastNewName(tables, k), file, tables.number(file, KIND));
            reachFrom(tables, file);
        }

        /** So many entries leave one of the names up to their count and one free. */
        private static int leastNewName(Tables tables, int entries) {
            int name = 1;
            while (name <= entries && tables.placeOfName(ROOT, entries, name) < entries) {
                name++;
            }
            return name;
        }

        private void reachFrom(Tables tables, int first) {
            queued = 0;
            reach(first);
            for (int at = 0; at < queued && at < FILES; at++) {
                for (int k = 0; k < ENTRIES; k++) {
                    reach(tables.entryPart(queue[at], k, OF));
                }
            }
        }

        private void reach(int file) {
            if (isFile(file) && !reached[file] && queued < FILES) {
                reached[file] = true;
                queue[queued] = file;
                queued++;
            }
        }
    }

    /** Pass 4: links, parents, and the list of those that wait. */
    private static final class LinkPass {
        static void mend(Tables tables, WaitingList waiting) {
            for (int file = ROOT; file <= FILES; file++) {
                tables.putNumber(file, LINKS, linksOf(tables, file));
                tables.putNumber(file, PARENT, 0);
                tables.putNumber(file, BEHIND, 0);
            }
            for (int file = ROOT; file <= FILES; file++) {
                becomeParent(tables, file);
            }
            tables.putNumber(ROOT, PARENT, ROOT);
            mendWaiting(tables, waiting);
        }

        private static int linksOf(Tables tables, int file) {
            if (tables.number(file, KIND) != FOLDER) {
                return tables.countEntriesFor(file);
            }
            int links = LINKS_OF_EMPTY_FOLDER;
            for (int k = 0; k < ENTRIES; k++) {
                if (isFolder(tables, tables.entryPart(file, k, OF))) {
                    links++;
                }
            }
            return links;
        }

        private static void becomeParent(Tables tables, int folder) {
            for (int k = 0; k < ENTRIES; k++) {
                int of = tables.entryPart(folder, k, OF);
                if (isFolder(tables, of)) {
                    tables.putNumber(of, PARENT, folder);
                }
            }
        }

        private static boolean isFolder(Tables tables, int file) {
            return isFile(file) && tables.number(file, KIND) == FOLDER;
        }

        private static void mendWaiting(Tables tables, WaitingList waiting) {
            tables.putTold(FIRST_WAITING, waiting.fileAt(0));
            for (int place = 0; place < waiting.size(); place++) {
                tables.putNumber(waiting.fileAt(place), BEHIND, waiting.fileAt(place + 1));
            }
        }
    }

    /** Pass 5: bits, and how many are free. */
    private static final class BitPass {
        static void mend(Tables tables) {
            for (int block = 1; block <= BLOCKS; block++) {
                tables.putBit(BLOCK_BITS, block, block <= FIXED_BLOCKS ? 1 : 0);
            }
            for (int file = ROOT; file <= FILES; file++) {
                tables.putBit(FILE_BITS, file, tables.number(file, KIND) != NO_KIND ? 1 : 0);
                for (int k = 0; k < RUNS; k++) {
                    takeBlocks(tables, tables.runPart(file, k, BLOCK), tables.runPart(file, k, LENGTH));
                }
            }
            tables.putTold(FREE_BLOCKS, countFree(tables, BLOCK_BITS, BLOCKS));
            tables.putTold(FREE_FILES, countFree(tables, FILE_BITS, FILES));
        }

        private static void takeBlocks(Tables tables, int first, int length) {
            for (int i = 0; i < length && i < PIECES; i++) {
                int block = first + i;
                if (block >= 1 && block <= BLOCKS) {
                    tables.putBit(BLOCK_BITS, block, 1);
                }
            }
        }

        private static int countFree(Tables tables, int kind, int numbers) {
            int free = 0;
            for (int number = 1; number <= numbers; number++) {
                if (tables.bitOf(kind, number) == 0) {
                    free++;
                }
            }
            return free;
        }
    }
}
