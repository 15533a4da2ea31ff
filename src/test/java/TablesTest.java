/** Promises 1 to 8 and 10 to 14: what is put into the tables, and what is read from them. */
public final class TablesTest {
    private static final int[] ANY = {0, 1, -1, 7, Integer.MAX_VALUE, Integer.MIN_VALUE};
    private static final int[] NO_FILE = {0, -1, 25, Integer.MAX_VALUE, Integer.MIN_VALUE};

    public static void main(String[] args) {
        Due due = new Due();
        newObject(due);
        clear(due);
        numbersOfRecords(due);
        runs(due);
        entries(due);
        holding(due);
        bits(due);
        tellings(due);
        eachNumberIsItsOwn(due);
        refusalsChangeNothing(due);
        due.end("TablesTest");
    }

    /** Whole tables, as the terms tell them. */
    private static int[] wholeNumbers() {
        int[] want = new int[Volume.NUMBERS];
        for (int i = 0; i < Volume.NUMBERS; i++) {
            want[i] = switch (Volume.nameOf(i)) {
                case "about(1, 0)", "about(1, 2)" -> 2;
                case "about(1, 4)", "isTaken(1, 1)" -> 1;
                case "told(0)" -> 192;
                case "told(1)" -> 23;
                default -> Volume.nameOf(i).matches("isTaken\\(0, [1-8]\\)") ? 1 : 0;
            };
        }
        return want;
    }

    private static void newObject(Due due) {
        due.sameNumbers("new", new Volume().numbers(), wholeNumbers());
        due.same("new: check()", new ImageChecker().check(), 0);
    }

    private static void clear(Due due) {
        Volume v = new Volume();
        for (int file = 1; file <= 24; file++) {
            v.record(file, 1, 2, 3, 4, 5).run(file, 5, 6, 7, 8).entry(file, 7, 8, 9, 10).bit(1, file, file != 1);
        }
        v.bit(0, 1, false).bit(0, 200, true).tell(0, 4).tell(1, 5).tell(2, 6).clear();
        due.sameNumbers("clear()", v.numbers(), wholeNumbers());
        due.same("clear(): check()", v.checked(), 0);
    }

    private static void numbersOfRecords(Due due) {
        for (int file : new int[] {1, 2, 24}) {
            for (int what = 0; what < 5; what++) {
                for (int value : ANY) {
                    ImageChecker x = new Volume().set(file, what, value).made();
                    due.same("set and about(" + file + ", " + what + ")", x.about(file, what), value);
                }
            }
        }
        for (int file : NO_FILE) {
            due.refuses("set of file " + file, () -> new ImageChecker().set(file, 0, 0));
            due.refuses("about of file " + file, () -> new ImageChecker().about(file, 0));
        }
        for (int what : new int[] {-1, 5, Integer.MAX_VALUE, Integer.MIN_VALUE}) {
            due.refuses("set of number " + what, () -> new ImageChecker().set(1, what, 0));
            due.refuses("about of number " + what, () -> new ImageChecker().about(1, what));
        }
    }

    private static void runs(Due due) {
        for (int file : new int[] {1, 24}) {
            for (int k = 0; k < 6; k++) {
                ImageChecker x = new Volume().run(file, k, -9, Integer.MAX_VALUE, Integer.MIN_VALUE).made();
                due.same("runOf piece", x.runOf(file, k, 0), -9);
                due.same("runOf length", x.runOf(file, k, 1), Integer.MAX_VALUE);
                due.same("runOf block", x.runOf(file, k, 2), Integer.MIN_VALUE);
            }
        }
        for (int file : NO_FILE) {
            due.refuses("run of file " + file, () -> new ImageChecker().run(file, 0, 0, 0, 0));
            due.refuses("runOf of file " + file, () -> new ImageChecker().runOf(file, 0, 0));
        }
        for (int k : new int[] {-1, 6, Integer.MAX_VALUE, Integer.MIN_VALUE}) {
            due.refuses("run " + k, () -> new ImageChecker().run(1, k, 0, 0, 0));
            due.refuses("runOf " + k, () -> new ImageChecker().runOf(1, k, 0));
        }
        for (int what : new int[] {-1, 3, Integer.MAX_VALUE, Integer.MIN_VALUE}) {
            due.refuses("runOf number " + what, () -> new ImageChecker().runOf(1, 0, what));
        }
    }

    private static void entries(Due due) {
        for (int file : new int[] {1, 24}) {
            for (int k = 0; k < 8; k++) {
                ImageChecker x = new Volume().entry(file, k, 300, -5, Integer.MIN_VALUE).made();
                due.same("entryOf name", x.entryOf(file, k, 0), 300);
                due.same("entryOf file", x.entryOf(file, k, 1), -5);
                due.same("entryOf kind", x.entryOf(file, k, 2), Integer.MIN_VALUE);
            }
        }
        for (int file : NO_FILE) {
            due.refuses("entry of file " + file, () -> new ImageChecker().entry(file, 0, 0, 0, 0));
            due.refuses("entryOf of file " + file, () -> new ImageChecker().entryOf(file, 0, 0));
        }
        for (int k : new int[] {-1, 8, Integer.MAX_VALUE, Integer.MIN_VALUE}) {
            due.refuses("entry " + k, () -> new ImageChecker().entry(1, k, 0, 0, 0));
            due.refuses("entryOf " + k, () -> new ImageChecker().entryOf(1, k, 0));
        }
        for (int what : new int[] {-1, 3, Integer.MAX_VALUE, Integer.MIN_VALUE}) {
            due.refuses("entryOf number " + what, () -> new ImageChecker().entryOf(1, 0, what));
        }
    }

    /** Whether a file that waits rightly stays tells whether it is held. */
    private static void holding(Due due) {
        due.same("held at first", waits(new Volume(), 24), 0);
        due.same("held", waits(new Volume().hold(24, true), 24), 1);
        due.same("held no more", waits(new Volume().hold(24, true).hold(24, false), 24), 0);
        due.same("another one held", waits(new Volume().hold(23, true), 24), 0);
        due.same("held behind clear()", waits(new Volume().hold(24, true).clear(), 24), 0);
        due.same("held behind check()", waits(new Volume().hold(24, true).check(), 24), 1);
        due.same("free behind check()", waits(waiting(new Volume(), 24).check(), 24), 0);
        due.sameNumbers("holding is no number", new Volume().hold(1, true).hold(2, true).numbers(), wholeNumbers());
        for (int file : NO_FILE) {
            due.refuses("hold of file " + file, () -> new ImageChecker().hold(file, true));
        }
    }

    private static Volume waiting(Volume v, int file) {
        return v.set(file, 0, 1).tell(2, file);
    }

    private static int waits(Volume v, int file) {
        return waiting(v, file).check().made().about(file, 0);
    }

    private static void bits(Due due) {
        int[] last = {200, 24};
        for (int kind = 0; kind < 2; kind++) {
            int k = kind;
            for (int number : new int[] {1, 2, 9, 24, last[kind]}) {
                ImageChecker x = new Volume().bit(k, number, true).made();
                due.same("bit true", x.isTaken(k, number) ? 1 : 0, 1);
                x.bit(k, number, false);
                due.same("bit false", x.isTaken(k, number) ? 1 : 0, 0);
            }
            for (int number : new int[] {0, -1, last[kind] + 1, Integer.MAX_VALUE, Integer.MIN_VALUE}) {
                due.refuses("bit " + k + ", " + number, () -> new ImageChecker().bit(k, number, true));
                due.refuses("isTaken " + k + ", " + number, () -> new ImageChecker().isTaken(k, number));
            }
        }
        for (int kind : new int[] {-1, 2, Integer.MAX_VALUE, Integer.MIN_VALUE}) {
            due.refuses("bit of kind " + kind, () -> new ImageChecker().bit(kind, 1, true));
            due.refuses("isTaken of kind " + kind, () -> new ImageChecker().isTaken(kind, 1));
        }
    }

    private static void tellings(Due due) {
        for (int what = 0; what < 3; what++) {
            for (int value : ANY) {
                due.same("told " + what, new Volume().tell(what, value).made().told(what), value);
            }
        }
        for (int what : new int[] {-1, 3, Integer.MAX_VALUE, Integer.MIN_VALUE}) {
            due.refuses("tell " + what, () -> new ImageChecker().tell(what, 0));
            due.refuses("told " + what, () -> new ImageChecker().told(what));
        }
    }

    /** Every number of the tables gets a value of its own; none may lie over another. */
    private static void eachNumberIsItsOwn(Due due) {
        for (int file = 1; file <= 24; file++) {
            Volume v = new Volume();
            int value = 1000;
            for (int what = 0; what < 5; what++) {
                v.set(file, what, value++);
            }
            for (int k = 0; k < 6; k++) {
                v.run(file, k, value++, value++, value++);
            }
            for (int k = 0; k < 8; k++) {
                v.entry(file, k, value++, value++, value++);
            }
            int[] want = wholeNumbers();
            for (int i = 0; i < 47; i++) {
                want[(file - 1) * 47 + i] = 1000 + i;
            }
            due.sameNumbers("all numbers of file " + file, v.numbers(), want);
        }
    }

    private static void refusalsChangeNothing(Due due) {
        ImageChecker x = new ImageChecker();
        due.refuses("set", () -> x.set(1, 5, 9));
        due.refuses("set", () -> x.set(25, 0, 9));
        due.refuses("run", () -> x.run(1, 6, 9, 9, 9));
        due.refuses("entry", () -> x.entry(1, 8, 9, 9, 9));
        due.refuses("bit", () -> x.bit(1, 25, true));
        due.refuses("bit", () -> x.bit(0, 0, true));
        due.refuses("tell", () -> x.tell(3, 9));
        due.refuses("hold", () -> x.hold(0, true));
        due.same("check() behind refusals", x.check(), 0);
        due.same("about(2, 0) behind refusals", x.about(2, 0), 0);
        due.same("entryOf(2, 0, 0) behind refusals", x.entryOf(2, 0, 0), 0);
    }
}
