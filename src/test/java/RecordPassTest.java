/** Pass 1 of promise 9: the root, kinds, sizes and runs. */
public final class RecordPassTest {
    private static final int MAX = Integer.MAX_VALUE;
    private static final int MIN = Integer.MIN_VALUE;

    public static void main(String[] args) {
        Due due = new Due();
        roots(due);
        kinds(due);
        sizes(due);
        rightRuns(due);
        runsComeUp(due);
        runsBecomeShorter(due);
        runsOverOthers(due);
        entriesOfNoFolder(due);
        due.end("RecordPassTest");
    }

    /** A plain file of so many bytes that hangs in the root. */
    private static Volume hung(int file, int size) {
        return new Volume().set(file, 0, 1).set(file, 1, size).entry(1, 0, 1, file, 1);
    }

    private static void roots(Due due) {
        for (int kind : new int[] {0, 1, 3, 4, -1, MAX}) {
            Volume v = new Volume().record(1, kind, 500, 2, 0, 1).run(1, 0, 0, 1, 9).entry(1, 0, 4, 2, 1);
            due.same("a root of kind " + kind + ": check()", v.checked(), 1);
            due.sameTables("a root of kind " + kind, v, new Volume());
        }
        Volume kept = new Volume().set(1, 0, 1).set(1, 2, 9).set(1, 3, 5).set(1, 4, 7);
        due.same("its other numbers wait for pass 4", kept.checked(), 1 + 8);
        ImageChecker x = new Volume().set(1, 1, 3000).run(1, 0, 0, 9, 20).made();
        due.same("a root that is a folder: check()", x.check(), 1 + 16);
        due.same("keeps its size", x.about(1, 1), 3000);
        due.sameRun("a root that is a folder", x, 1, 0, 0, 3, 20);
    }

    private static void kinds(Due due) {
        for (int kind : new int[] {0, 4, -1, MAX, MIN}) {
            Volume v = new Volume().record(5, kind, 1, 2, 3, 4).run(5, 0, 0, 1, 9).run(5, 5, 1, 2, 3)
                .entry(5, 0, 1, 2, 3).entry(5, 7, 1, 2, 3).entry(1, 0, 1, 5, 1);
            due.same("kind " + kind + ": check()", v.checked(), 1 + 2);
            due.sameTables("kind " + kind, v, new Volume());
        }
        for (int kind = 1; kind <= 3; kind++) {
            due.same("kind " + kind + " stays", hung(5, 0).set(5, 0, kind).check().made().about(5, 0), kind);
        }
    }

    private static void sizes(Due due) {
        for (int size : new int[] {0, 1, 1024, 65535, 65536}) {
            due.same("a size that can be", hung(2, size).check().made().about(2, 1), size);
        }
        for (int size : new int[] {-1, 65537, MAX, MIN}) {
            due.same("no runs, size " + size, hung(2, size).check().made().about(2, 1), 0);
            ImageChecker x = hung(2, size).run(2, 0, 4, 3, 30).run(2, 1, 2, 1, 40).run(2, 5, 60, 5, 50).check().made();
            due.same("the greatest end of right runs, size " + size, x.about(2, 1), 7168);
            due.sameRun("the first one stays", x, 2, 0, 4, 3, 30);
            due.sameRun("the second begins before its end", x, 2, 1, 0, 0, 0);
        }
        ImageChecker x = hung(2, -1).run(2, 0, 0, 2, 30).run(2, 1, 63, 1, 31).check().made();
        due.same("a right run counts for the size, if it goes later, too", x.about(2, 1), 65536);
        due.sameRun("it goes, for it lies on the first", x, 2, 1, 0, 0, 0);
        due.same("an entry is no run", hung(2, -1).set(2, 0, 2).entry(2, 0, 5, 2, 20).check().made().about(2, 1), 0);
        ImageChecker all = hung(2, -1).run(2, 3, 0, 64, 137).check().made();
        due.same("all 64 pieces", all.about(2, 1), 65536);
        due.sameRun("all 64 pieces", all, 2, 0, 0, 64, 137);
    }

    private static void rightRuns(Due due) {
        int[][] right = {{0, 1, 9}, {63, 1, 200}, {0, 64, 9}, {0, 64, 137}, {62, 2, 199}};
        for (int[] run : right) {
            ImageChecker x = hung(2, 65536).run(2, 2, run[0], run[1], run[2]).check().made();
            due.sameRun("a right run", x, 2, 0, run);
            due.sameRun("its old place", x, 2, 2, 0, 0, 0);
        }
        int[][] wrong = {{0, 0, 9}, {0, -1, 9}, {-1, 1, 9}, {-1, 2, 20}, {64, 1, 9}, {63, 2, 9}, {0, 65, 9}, {0, 1, 8},
            {0, 2, 200}, {0, 1, 201}, {0, 64, 138}, {0, 1, 0}, {0, 1, -1}, {0, 9, 1}, {MAX, 1, 9}, {1, MAX, 9},
            {MAX, MAX, 9}, {0, 1, MAX}, {0, 64, MAX}, {MIN, 1, 9}, {0, MIN, 9}, {0, 1, MIN}, {MIN, MIN, MIN},
            {MIN, MAX, 9}, {MAX, MAX, MAX}, {2, MAX, MAX}, {-5, 10, 20}};
        for (int[] run : wrong) {
            Volume v = hung(2, 65536).run(2, 0, run[0], run[1], run[2]);
            due.sameTables("a wrong run " + run[0] + ", " + run[1] + ", " + run[2], v.check(), hung(2, 65536).check());
        }
    }

    private static void runsComeUp(Due due) {
        ImageChecker x = hung(2, 65536).run(2, 0, 3, 0, 50).run(2, 1, 1, 1, 30).run(2, 2, 2, 2, 2)
            .run(2, 3, 4, 1, 20).run(2, 5, 5, 2, 40).made();
        due.same("runs come up: check()", x.check(), 1 + 8 + 16);
        due.sameRun("runs come up", x, 2, 0, 1, 1, 30);
        due.sameRun("runs come up", x, 2, 1, 4, 1, 20);
        due.sameRun("runs come up", x, 2, 2, 5, 2, 40);
        for (int k = 3; k < 6; k++) {
            due.sameRun("behind them", x, 2, k, 0, 0, 0);
        }
    }

    private static void runsBecomeShorter(Due due) {
        int[][] sizeAndLength = {{65536, 10}, {10240, 10}, {10239, 10}, {9217, 10}, {9216, 9}, {4097, 5}, {2049, 3},
            {2048, 2}, {1025, 2}, {1024, 1}, {1, 1}};
        for (int[] each : sizeAndLength) {
            ImageChecker x = hung(2, each[0]).run(2, 0, 0, 10, 30).check().made();
            due.sameRun("size " + each[0], x, 2, 0, 0, each[1], 30);
        }
        ImageChecker none = hung(2, 0).run(2, 0, 0, 10, 30).check().made();
        due.sameRun("size 0", none, 2, 0, 0, 0, 0);
        ImageChecker x = hung(2, 5000).run(2, 0, 5, 1, 30).run(2, 1, 4, 9, 40).run(2, 2, 5, 1, 60).check().made();
        due.sameRun("nothing is left of the first", x, 2, 0, 4, 1, 40);
        due.sameRun("nor of the third", x, 2, 1, 0, 0, 0);
        ImageChecker y = hung(2, 1000).run(2, 0, 0, 9, 30).set(3, 0, 1).set(3, 1, 1024).run(3, 0, 0, 1, 31).check().made();
        due.sameRun("blocks that a shorter run left are free for others", y, 3, 0, 0, 1, 31);
        ImageChecker z = hung(2, 1000).run(2, 0, 0, 1, 31).set(3, 0, 1).set(3, 1, 1024).run(3, 0, 0, 2, 30).check().made();
        due.sameRun("a run is made shorter before its blocks are looked at", z, 3, 0, 0, 1, 30);
    }

    private static void runsOverOthers(Due due) {
        ImageChecker x = hung(2, 65536).run(2, 0, 5, 2, 30).run(2, 1, 6, 1, 40).run(2, 2, 7, 1, 50).check().made();
        due.sameRun("one that begins before the end goes, one at the end stays", x, 2, 1, 7, 1, 50);
        ImageChecker y = hung(2, 65536).run(2, 0, 5, 2, 30).run(2, 1, 7, 5, 26).run(2, 2, 8, 1, 32).check().made();
        due.sameRun("one whose last block is taken goes, with it its end", y, 2, 1, 8, 1, 32);
        ImageChecker z = hung(2, 65536).run(2, 0, 5, 2, 30).run(2, 1, 7, 5, 25).check().made();
        due.sameRun("one that ends right before", z, 2, 1, 7, 5, 25);
        ImageChecker others = hung(3, 2048).run(3, 0, 0, 2, 30).set(2, 0, 2).set(2, 1, 1).run(2, 0, 0, 1, 31)
            .set(4, 0, 3).set(4, 1, 9999).run(4, 0, 0, 1, 30).run(4, 1, 1, 2, 29).run(4, 2, 1, 1, 32).check().made();
        due.sameRun("the file before keeps the block", others, 2, 0, 0, 1, 31);
        due.sameRun("the file behind loses its run", others, 3, 0, 0, 0, 0);
        due.sameRun("runs that went hold no block", others, 4, 0, 0, 1, 30);
        due.sameRun("then the next one", others, 4, 1, 1, 1, 32);
        ImageChecker gone = hung(3, 1024).run(3, 0, 0, 1, 30).set(2, 0, 5).set(2, 1, 1024).run(2, 0, 0, 1, 30).check().made();
        due.sameRun("a record that goes holds no block", gone, 3, 0, 0, 1, 30);
    }

    private static void entriesOfNoFolder(Due due) {
        for (int kind : new int[] {1, 3}) {
            Volume v = hung(2, 0).set(2, 0, kind).check();
            Volume with = hung(2, 0).set(2, 0, kind).check().entry(2, 0, 1, 2, 1).entry(2, 7, 0, 0, 1);
            due.same("entries of kind " + kind + ": check()", with.checked(), 1);
            due.sameTables("entries of kind " + kind, with, v);
        }
    }
}
