import java.util.function.BiConsumer;

/** Promises 1 to 8 and 10 to 14, a test for each sentence: what is put in, what is read, what is refused. */
public final class TablesTest {
    private static final int MAX = Integer.MAX_VALUE;
    private static final int MIN = Integer.MIN_VALUE;
    private static final int[] ANY = {0, 1, -1, 7, 255, 256, 65536, MAX, MIN};
    private static final int[] SOME_FILES = {1, 2, 23, 24};
    // The last ones come back into the rows, where the product with a row's length wraps.
    private static final int[] NO_FILE = {0, -1, 25, 26, 256 + 1, MAX, MIN, 1 << 31 | 1, (1 << 30) + 1, (1 << 28) + 2};

    public static void main(String[] args) {
        Due due = new Due();
        newObject(due);
        newObjectBesideAnother(due);
        clear(due);
        set(due);
        about(due);
        run(due);
        runOf(due);
        entry(due);
        entryOf(due);
        hold(due);
        holdAtFirst(due);
        holdBehindCheck(due);
        bit(due);
        isTaken(due);
        tell(due);
        told(due);
        eachNumberIsItsOwn(due);
        refusalsChangeNothing(due);
        due.end("TablesTest");
    }

    private static void newObject(Due due) {
        due.sentence("promise 1", "`ImageChecker()`: Whole tables.");
        due.sameNumbers("new", new Volume().numbers(), Volume.wholeNumbers());
        due.same("new: check()", new ImageChecker().check(), 0);
    }

    private static void newObjectBesideAnother(Due due) {
        due.sentence("promise 1", "Whole tables.");
        ImageChecker first = new ImageChecker();
        first.set(2, 0, 1);
        first.hold(2, true);
        ImageChecker second = new ImageChecker();
        due.same("the second one's kind", second.about(2, 0), 0);
        second.set(2, 0, 3);
        second.tell(2, 2);
        second.check();
        due.same("the second one holds nothing", second.about(2, 0), 0);
        due.same("the first one's kind", first.about(2, 0), 1);
        due.same("the first one: check()", first.check(), 4 + 8 + 16);
    }

    private static void clear(Due due) {
        due.sentence("promise 2", "The tables become whole, as at first.");
        due.sameNumbers("behind nothing", new Volume().clear().numbers(), Volume.wholeNumbers());
        due.sameNumbers("twice", new Volume().set(1, 0, 5).clear().clear().numbers(), Volume.wholeNumbers());
        Volume records = new Volume();
        for (int file = 1; file <= 24; file++) {
            records.record(file, 1, 2, 3, 4, 5);
            for (int k = 0; k < 6; k++) {
                records.run(file, k, 6, 7, 8);
            }
            for (int k = 0; k < 8; k++) {
                records.entry(file, k, 8, 9, 10);
            }
        }
        records.tell(0, 4).tell(1, 5).tell(2, 6).clear();
        due.sameNumbers("behind all records", records.numbers(), Volume.wholeNumbers());
        due.same("behind all records: check()", records.checked(), 0);
        Volume bits = new Volume();
        for (int block = 1; block <= 200; block++) {
            bits.bit(0, block, block > 8);
        }
        for (int file = 1; file <= 24; file++) {
            bits.bit(1, file, file > 1);
        }
        due.sameNumbers("behind all bits", bits.clear().numbers(), Volume.wholeNumbers());
        Volume checked = new Volume().set(2, 0, 2).set(3, 0, 1).check().clear();
        due.sameNumbers("behind a check", checked.numbers(), Volume.wholeNumbers());
        ImageChecker x = new Volume().set(2, 0, 1).clear().set(2, 0, 1).set(2, 1, 9).made();
        due.same("it can be used on", x.about(2, 1), 9);
    }

    /** All places from below the first one to above the last one, and the least and the greatest int. */
    private static void refused(Due due, String what, int places, BiConsumer<ImageChecker, Integer> call) {
        for (int place : new int[] {-1, -2, places, places + 1, 256, MAX, MIN, MIN + 1, 1 << 30}) {
            due.refuses(what + " " + place, () -> call.accept(new ImageChecker(), place));
        }
    }

    private static void refusedFiles(Due due, String what, BiConsumer<ImageChecker, Integer> call) {
        for (int file : NO_FILE) {
            due.refuses(what + " of file " + file, () -> call.accept(new ImageChecker(), file));
        }
    }

    private static void set(Due due) {
        due.sentence("promise 3", "A number of a record: what = 0 kind, 1 size, 2 links, 3 behind, 4 parent. "
            + "IllegalArgumentException: there is no such file, or number.");
        for (int file : SOME_FILES) {
            for (int what = 0; what < 5; what++) {
                for (int value : ANY) {
                    ImageChecker x = new Volume().set(file, what, value).made();
                    due.same("set(" + file + ", " + what + ", " + value + ")", x.about(file, what), value);
                }
            }
        }
        refusedFiles(due, "set", (x, file) -> x.set(file, 0, 0));
        refusedFiles(due, "set the last number", (x, file) -> x.set(file, 4, 0));
        refused(due, "set number", 5, (x, what) -> x.set(1, what, 0));
        refused(due, "set of file 24 number", 5, (x, what) -> x.set(24, what, 0));
        refused(due, "set of no file number", 5, (x, what) -> x.set(25, what, 0));
    }

    private static void about(Due due) {
        due.sentence("promise 10", "A number of a record, as for set(). "
            + "IllegalArgumentException: there is no such file, or number.");
        for (int file : SOME_FILES) {
            ImageChecker x = new Volume().record(file, 11, 12, 13, 14, 15).made();
            for (int what = 0; what < 5; what++) {
                due.same("about(" + file + ", " + what + ")", x.about(file, what), 11 + what);
            }
        }
        refusedFiles(due, "about", (x, file) -> x.about(file, 0));
        refusedFiles(due, "about the last number", (x, file) -> x.about(file, 4));
        refused(due, "about number", 5, (x, what) -> x.about(1, what));
        refused(due, "about file 24 number", 5, (x, what) -> x.about(24, what));
        refused(due, "about no file number", 5, (x, what) -> x.about(0, what));
    }

    private static void run(Due due) {
        due.sentence("promise 4", "A run (0 .. 5) of a record. IllegalArgumentException: there is no such file, or run.");
        for (int file : SOME_FILES) {
            for (int k = 0; k < 6; k++) {
                for (int value : ANY) {
                    due.sameRun("run", new Volume().run(file, k, value, 5, 6).made(), file, k, value, 5, 6);
                    due.sameRun("run", new Volume().run(file, k, 5, value, 6).made(), file, k, 5, value, 6);
                    due.sameRun("run", new Volume().run(file, k, 5, 6, value).made(), file, k, 5, 6, value);
                }
            }
        }
        refusedFiles(due, "run", (x, file) -> x.run(file, 0, 0, 0, 0));
        refusedFiles(due, "the last run", (x, file) -> x.run(file, 5, 0, 0, 0));
        refused(due, "run", 6, (x, k) -> x.run(1, k, 0, 0, 0));
        refused(due, "of file 24 run", 6, (x, k) -> x.run(24, k, 0, 0, 0));
        refused(due, "of no file run", 6, (x, k) -> x.run(25, k, 0, 0, 0));
    }

    private static void runOf(Due due) {
        due.sentence("promise 11", "Of run k of a file: 0 its first piece, 1 length, 2 block. "
            + "IllegalArgumentException: there is no such file, run, or number.");
        for (int file : SOME_FILES) {
            for (int k = 0; k < 6; k++) {
                ImageChecker x = new Volume().run(file, k, 21, 22, 23).made();
                due.same("piece", x.runOf(file, k, 0), 21);
                due.same("length", x.runOf(file, k, 1), 22);
                due.same("block", x.runOf(file, k, 2), 23);
            }
        }
        refusedFiles(due, "runOf", (x, file) -> x.runOf(file, 0, 0));
        refusedFiles(due, "runOf the last number", (x, file) -> x.runOf(file, 5, 2));
        refused(due, "runOf run", 6, (x, k) -> x.runOf(1, k, 0));
        refused(due, "runOf file 24 run", 6, (x, k) -> x.runOf(24, k, 2));
        refused(due, "runOf number", 3, (x, what) -> x.runOf(1, 0, what));
        refused(due, "runOf file 24 number", 3, (x, what) -> x.runOf(24, 5, what));
    }

    private static void entry(Due due) {
        due.sentence("promise 5", "An entry (0 .. 7) of a file. IllegalArgumentException: there is no such file, or entry.");
        for (int file : SOME_FILES) {
            for (int k = 0; k < 8; k++) {
                for (int value : ANY) {
                    due.sameEntry("entry", new Volume().entry(file, k, value, 5, 6).made(), file, k, value, 5, 6);
                    due.sameEntry("entry", new Volume().entry(file, k, 5, value, 6).made(), file, k, 5, value, 6);
                    due.sameEntry("entry", new Volume().entry(file, k, 5, 6, value).made(), file, k, 5, 6, value);
                }
            }
        }
        refusedFiles(due, "entry", (x, file) -> x.entry(file, 0, 0, 0, 0));
        refusedFiles(due, "the last entry", (x, file) -> x.entry(file, 7, 0, 0, 0));
        refused(due, "entry", 8, (x, k) -> x.entry(1, k, 0, 0, 0));
        refused(due, "of file 24 entry", 8, (x, k) -> x.entry(24, k, 0, 0, 0));
        refused(due, "of no file entry", 8, (x, k) -> x.entry(0, k, 0, 0, 0));
    }

    private static void entryOf(Due due) {
        due.sentence("promise 12", "Of entry k of a file: 0 its name, 1 file, 2 kind. "
            + "IllegalArgumentException: there is no such file, entry, or number.");
        for (int file : SOME_FILES) {
            for (int k = 0; k < 8; k++) {
                ImageChecker x = new Volume().entry(file, k, 31, 32, 33).made();
                due.same("name", x.entryOf(file, k, 0), 31);
                due.same("file", x.entryOf(file, k, 1), 32);
                due.same("kind", x.entryOf(file, k, 2), 33);
            }
        }
        refusedFiles(due, "entryOf", (x, file) -> x.entryOf(file, 0, 0));
        refusedFiles(due, "entryOf the last number", (x, file) -> x.entryOf(file, 7, 2));
        refused(due, "entryOf entry", 8, (x, k) -> x.entryOf(1, k, 0));
        refused(due, "entryOf file 24 entry", 8, (x, k) -> x.entryOf(24, k, 2));
        refused(due, "entryOf number", 3, (x, what) -> x.entryOf(1, 0, what));
        refused(due, "entryOf file 24 number", 3, (x, what) -> x.entryOf(24, 7, what));
    }

    /** Whether a file that waits rightly stays tells whether it is held. */
    private static int staysWaiting(Volume v, int file) {
        return v.set(file, 0, 1).tell(2, file).check().made().about(file, 0);
    }

    private static void hold(Due due) {
        due.sentence("promise 6", "A file is held, or not");
        for (int file : new int[] {2, 3, 23, 24}) {
            due.same("held", staysWaiting(new Volume().hold(file, true), file), 1);
            due.same("held twice", staysWaiting(new Volume().hold(file, true).hold(file, true), file), 1);
            due.same("held no more", staysWaiting(new Volume().hold(file, true).hold(file, false), file), 0);
            due.same("not held", staysWaiting(new Volume().hold(file, false), file), 0);
            due.same("others held", staysWaiting(new Volume().hold(file - 1, true).hold(file % 24 + 1, true), file), 0);
        }
        due.same("the root can be held", new Volume().hold(1, true).checked(), 0);
        due.sentence("promise 6", "check() changes none of that). IllegalArgumentException: there is no such file.");
        refusedFiles(due, "hold", (x, file) -> x.hold(file, true));
        refusedFiles(due, "hold no more", (x, file) -> x.hold(file, false));
    }

    private static void holdAtFirst(Due due) {
        due.sentence("promise 6", "(none is, at first, and behind clear();");
        Volume all = new Volume();
        for (int file = 1; file <= 24; file++) {
            all.hold(file, true);
        }
        all.clear();
        for (int file = 2; file <= 24; file++) {
            due.same("file " + file + " at first", staysWaiting(new Volume(), file), 0);
        }
        for (int file = 2; file <= 24; file++) {
            due.same("file " + file + " behind clear()", staysWaiting(all, file), 0);
            all.clear();
        }
    }

    private static void holdBehindCheck(Due due) {
        due.sentence("promise 6", "check() changes none of that");
        due.same("held", staysWaiting(new Volume().hold(24, true).check(), 24), 1);
        due.same("held, of another kind by then", staysWaiting(new Volume().hold(24, true).set(24, 0, 9).check(), 24), 1);
        due.same("held, its record went", staysWaiting(Volume.rootWith(8).set(9, 0, 1).hold(9, true).check(), 9), 1);
        Volume waited = new Volume().hold(24, true).set(24, 0, 1).tell(2, 24).check();
        due.same("held, it waited", staysWaiting(waited, 24), 1);
        Volume went = new Volume().set(24, 0, 1).tell(2, 24).check();
        due.same("not held, it went", staysWaiting(went, 24), 0);
    }

    private static int taken(ImageChecker x, int kind, int number) {
        return x.isTaken(kind, number) ? 1 : 0;
    }

    private static void bit(Due due) {
        due.sentence("promise 7", "The bit of a block (kind 0) or file (1). IllegalArgumentException: there is none such.");
        for (int kind = 0; kind < 2; kind++) {
            for (int number = 1; number <= (kind == 0 ? 200 : 24); number++) {
                ImageChecker x = new Volume().bit(kind, number, true).made();
                due.same("bit " + kind + ", " + number + " true", taken(x, kind, number), 1);
                x.bit(kind, number, false);
                due.same("bit " + kind + ", " + number + " false", taken(x, kind, number), 0);
                due.same("the bit of the other kind", taken(x, 1 - kind, 10), 0);
            }
        }
        for (boolean is : new boolean[] {true, false}) {
            for (int number : new int[] {0, -1, 201, 256 + 1, MAX, MIN}) {
                due.refuses("block " + number, () -> new ImageChecker().bit(0, number, is));
            }
            refusedFiles(due, "bit", (x, file) -> x.bit(1, file, is));
            due.refuses("file 200", () -> new ImageChecker().bit(1, 200, is));
            refused(due, "bit of kind", 2, (x, kind) -> x.bit(kind, 1, is));
            refused(due, "bit 24 of kind", 2, (x, kind) -> x.bit(kind, 24, is));
            refused(due, "no bit of kind", 2, (x, kind) -> x.bit(kind, 0, is));
        }
    }

    private static void isTaken(Due due) {
        due.sentence("promise 13", "Whether a block (kind 0) or file (1) is taken, by its bit. "
            + "IllegalArgumentException: there is none such.");
        ImageChecker x = new Volume().bit(0, 200, true).bit(1, 24, true).set(9, 0, 1).run(9, 0, 0, 1, 77).made();
        due.same("block 1", taken(x, 0, 1), 1);
        due.same("block 8", taken(x, 0, 8), 1);
        due.same("block 9", taken(x, 0, 9), 0);
        due.same("block 200", taken(x, 0, 200), 1);
        due.same("block 199", taken(x, 0, 199), 0);
        due.same("file 1", taken(x, 1, 1), 1);
        due.same("file 24", taken(x, 1, 24), 1);
        due.same("file 23", taken(x, 1, 23), 0);
        due.same("by its bit, not by runs", taken(x, 0, 77), 0);
        due.same("by its bit, not by kinds", taken(x, 1, 9), 0);
        for (int number : new int[] {0, -1, 201, 256 + 1, MAX, MIN}) {
            due.refuses("block " + number, () -> new ImageChecker().isTaken(0, number));
        }
        refusedFiles(due, "isTaken", (y, file) -> y.isTaken(1, file));
        due.refuses("file 200", () -> new ImageChecker().isTaken(1, 200));
        refused(due, "isTaken of kind", 2, (y, kind) -> y.isTaken(kind, 1));
        refused(due, "isTaken 24 of kind", 2, (y, kind) -> y.isTaken(kind, 24));
        refused(due, "isTaken no bit of kind", 2, (y, kind) -> y.isTaken(kind, 0));
    }

    private static void tell(Due due) {
        due.sentence("promise 8", "How many blocks (0), or files (1), are free as is told; the first file that waits (2). "
            + "IllegalArgumentException: there is no such number.");
        for (int what = 0; what < 3; what++) {
            for (int value : ANY) {
                ImageChecker x = new Volume().tell(what, value).made();
                due.same("tell(" + what + ", " + value + ")", x.told(what), value);
                due.same("it is told, not counted", taken(x, 0, 9) + taken(x, 1, 2), 0);
            }
        }
        refused(due, "tell", 3, (x, what) -> x.tell(what, 0));
    }

    private static void told(Due due) {
        due.sentence("promise 14", "As told: 0 free blocks, 1 free files, 2 the first one that waits. "
            + "IllegalArgumentException: there is no such number.");
        ImageChecker x = new ImageChecker();
        due.same("free blocks at first", x.told(0), 192);
        due.same("free files at first", x.told(1), 23);
        due.same("the first one that waits at first", x.told(2), 0);
        ImageChecker y = new Volume().tell(0, 41).tell(1, 42).tell(2, 43).bit(0, 50, true).bit(1, 20, true).made();
        due.same("free blocks as told, bits don't count", y.told(0), 41);
        due.same("free files as told, bits don't count", y.told(1), 42);
        due.same("the first one that waits", y.told(2), 43);
        refused(due, "told", 3, (z, what) -> z.told(what));
    }

    /** Every number of the tables gets a value of its own; none may lie over another. */
    private static void eachNumberIsItsOwn(Due due) {
        due.sentence("Terms", "of each file a RECORD: kind (0 none, 1 plain, 2 folder, 3 link), size, links, behind");
        for (int file = 1; file <= 24; file++) {
            Volume v = new Volume();
            int value = 1000;
            for (int what = 0; what < 5; what++) {
                v.set(file, what, value++);
            }
            for (int k = 0; k < 6; k++) {
                v.run(file, k, value++, value++, value++);
            }
            for (int k = 0; k < 8; k++) {
                v.entry(file, k, value++, value++, value++);
            }
            int[] want = Volume.wholeNumbers();
            for (int i = 0; i < Volume.OF_FILE; i++) {
                want[(file - 1) * Volume.OF_FILE + i] = 1000 + i;
            }
            due.sameNumbers("all numbers of file " + file, v.numbers(), want);
        }
    }

    private static void refusalsChangeNothing(Due due) {
        due.sentence("Not promised", "Nothing is promised beyond the answers and state changes described above");
        Volume refused = new Volume();
        for (int wrong : new int[] {-1, 25, MAX, MIN}) {
            refused.refused(x -> x.set(wrong, 0, 9)).refused(x -> x.set(1, wrong, 9))
                .refused(x -> x.run(wrong, 0, 9, 9, 9)).refused(x -> x.run(24, wrong, 9, 9, 9))
                .refused(x -> x.entry(wrong, 0, 9, 9, 9)).refused(x -> x.entry(24, wrong, 9, 9, 9))
                .refused(x -> x.bit(1, wrong, true)).refused(x -> x.bit(wrong, 9, true))
                .refused(x -> x.hold(wrong, true)).refused(x -> x.tell(wrong, 9))
                .refused(x -> x.about(wrong, 0)).refused(x -> x.runOf(1, wrong, 0))
                .refused(x -> x.entryOf(1, 0, wrong)).refused(x -> x.isTaken(wrong, 1)).refused(x -> x.told(wrong));
        }
        due.sameNumbers("refused calls", refused.numbers(), Volume.wholeNumbers());
        due.same("refused calls: check()", refused.checked(), 0);
    }
}
