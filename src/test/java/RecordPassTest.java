/** Pass 1 of promise 9, a test for each of its sentences. */
public final class RecordPassTest {
    private static final int MAX = Integer.MAX_VALUE;
    private static final int MIN = Integer.MIN_VALUE;

    public static void main(String[] args) {
        Due due = new Due();
        byTheirNumbers(due);
        rootOfAnotherKind(due);
        rootLookedAtAsAnyOther(due);
        otherKinds(due);
        kindZero(due);
        rightLength(due);
        rightFirstPiece(due);
        rightEnd(due);
        noWrap(due);
        rightBlocks(due);
        rightSizes(due);
        greatestEnd(due);
        sizeWithoutRightRuns(due);
        places(due);
        wrongRunsGo(due);
        shorter(due);
        nothingLeft(due);
        thenTheOthers(due);
        beforeTheEnd(due);
        blocksInRuns(due);
        ofThisFileOrOneBefore(due);
        entriesOfNoFolder(due);
        due.end("RecordPassTest");
    }

    /** The runs of file 2 behind a check, of the greatest size, so that only the runs count. */
    private static ImageChecker checked(int[]... runs) {
        return ofSize(65536, runs);
    }

    private static ImageChecker ofSize(int size, int[]... runs) {
        Volume v = Volume.hung(2, size);
        for (int k = 0; k < runs.length; k++) {
            v.run(2, k, runs[k][0], runs[k][1], runs[k][2]);
        }
        return v.check().made();
    }

    private static void stays(Due due, int... run) {
        due.sameRuns(written(run) + " stays", checked(run), 2, run);
    }

    private static void goes(Due due, int... run) {
        due.sameRuns(written(run) + " goes", checked(run), 2);
    }

    private static String written(int[] run) {
        return "run " + run[0] + ", " + run[1] + ", " + run[2];
    }

    private static int[] row(int... numbers) {
        return numbers;
    }

    private static void byTheirNumbers(Due due) {
        due.sentence("pass 1", "RECORDS, by their numbers.");
        for (int[] pair : new int[][] {{1, 2}, {1, 24}, {2, 3}, {23, 24}}) {
            ImageChecker x = new Volume().set(pair[1], 0, 1).set(pair[1], 1, 1024).run(pair[1], 0, 0, 1, 30)
                .set(pair[0], 0, 2).set(pair[0], 1, 1024).run(pair[0], 0, 0, 1, 30).check().made();
            due.sameRuns("the first one keeps the block", x, pair[0], row(0, 1, 30));
            due.sameRuns("the second one loses it", x, pair[1]);
        }
    }

    private static void rootOfAnotherKind(Due due) {
        due.sentence("pass 1", "If the root's kind is not 2, it becomes 2, size becomes 0, all its runs and entries go");
        for (int kind : new int[] {0, 1, 3, 4, -1, 258, MAX, MIN}) {
            for (int size : new int[] {0, 500, 65536, -1, MAX}) {
                Volume v = new Volume().set(1, 0, kind).set(1, 1, size);
                for (int k = 0; k < 6; k++) {
                    v.run(1, k, k, 1, 9 + k);
                }
                for (int k = 0; k < 8; k++) {
                    v.entry(1, k, 4 + k, 2, 1);
                }
                due.same("a root of kind " + kind + ": check()", v.checked(), 1);
                due.sameTables("a root of kind " + kind, v, new Volume());
            }
        }
        Volume numbers = new Volume().set(1, 0, 1).set(1, 2, 9).set(1, 3, 5).set(1, 4, 7);
        due.same("its links, behind and parent are for pass 4: check()", numbers.checked(), 1 + 8);
        ImageChecker x = Volume.hung(2, 1024).run(2, 0, 0, 1, 30).set(1, 0, 3).set(1, 1, 1024).run(1, 0, 0, 1, 30)
            .check().made();
        due.sameRuns("its runs that went hold no block", x, 2, row(0, 1, 30));
        due.sameEntries("its entries went, pass 3 makes one", x, 1, row(1, 2, 1));
    }

    private static void rootLookedAtAsAnyOther(Due due) {
        due.sentence("pass 1", "(else it is looked at as any other)");
        ImageChecker x = Volume.hung(2, 0).set(1, 1, 3000).run(1, 0, 0, 0, 5).run(1, 1, 0, 9, 20).run(1, 2, 1, 1, 40)
            .check().made();
        due.same("its size stays", x.about(1, 1), 3000);
        due.sameRuns("its runs", x, 1, row(0, 3, 20));
        due.sameEntries("its entries stay", x, 1, row(1, 2, 1));
        for (int size : new int[] {-1, 65537}) {
            ImageChecker y = new Volume().set(1, 1, size).run(1, 3, 60, 4, 197).check().made();
            due.same("its size is mended", y.about(1, 1), 65536);
            due.sameRuns("its run comes up", y, 1, row(60, 4, 197));
        }
    }

    private static void otherKinds(Due due) {
        due.sentence("pass 1", "A record of another kind than 0 .. 3 becomes one of kind 0.");
        for (int file : new int[] {2, 13, 24}) {
            for (int kind : new int[] {4, 5, -1, -2, 256, 257, 258, MAX, MIN}) {
                Volume v = new Volume().set(file, 0, kind);
                due.same("kind " + kind + ": check()", v.checked(), 1);
                due.sameTables("kind " + kind, v, new Volume());
                Volume full = new Volume().record(file, kind, 1, 2, 3, 4).run(file, 0, 0, 1, 9).run(file, 5, 1, 2, 3)
                    .entry(file, 0, 1, 2, 3).entry(file, 7, 1, 2, 3);
                due.same("kind " + kind + ", with all else: check()", full.checked(), 1);
                due.sameTables("kind " + kind + ", with all else", full, new Volume());
            }
            for (int kind = 1; kind <= 3; kind++) {
                ImageChecker x = Volume.hung(file, 0).set(file, 0, kind).check().made();
                due.same("kind " + kind + " stays", x.about(file, 0), kind);
            }
        }
    }

    private static void kindZero(Due due) {
        due.sentence("pass 1", "A record of kind 0: all numbers, runs, entries become 0.");
        for (int file : new int[] {2, 24}) {
            for (int what = 1; what < 5; what++) {
                becomesWhole(due, new Volume().set(file, what, 1));
                becomesWhole(due, new Volume().set(file, what, MIN));
            }
            for (int k = 0; k < 6; k++) {
                becomesWhole(due, new Volume().run(file, k, 0, 1, 9));
                becomesWhole(due, new Volume().run(file, k, 1, 0, 0));
                becomesWhole(due, new Volume().run(file, k, 0, 0, -1));
            }
            for (int k = 0; k < 8; k++) {
                becomesWhole(due, new Volume().entry(file, k, 1, 2, 1));
                becomesWhole(due, new Volume().entry(file, k, 0, 1, 0));
                becomesWhole(due, new Volume().entry(file, k, 0, 0, MAX));
            }
        }
        ImageChecker x = Volume.hung(3, 1024).run(3, 0, 0, 1, 30).set(2, 1, 1024).run(2, 0, 0, 1, 30).check().made();
        due.sameRuns("its runs hold no block", x, 3, row(0, 1, 30));
    }

    private static void becomesWhole(Due due, Volume v) {
        due.same("one number of a record of kind 0: check()", v.checked(), 1);
        due.sameTables("one number of a record of kind 0", v, new Volume());
    }

    private static void rightLength(Due due) {
        due.sentence("pass 1", "a RIGHT run has a length of 1 or more");
        stays(due, 0, 1, 50);
        stays(due, 0, 2, 50);
        goes(due, 0, 0, 50);
        goes(due, 0, -1, 50);
        goes(due, 20, -5, 50);
        goes(due, 0, MIN, 50);
        goes(due, MAX, MIN, 50);
    }

    private static void rightFirstPiece(Due due) {
        due.sentence("pass 1", "a first piece of 0 or more");
        stays(due, 0, 1, 50);
        stays(due, 1, 1, 50);
        goes(due, -1, 1, 50);
        goes(due, -1, 2, 50);
        goes(due, -5, 10, 50);
        goes(due, MIN, 1, 50);
        goes(due, MIN, 64, 50);
    }

    private static void rightEnd(Due due) {
        due.sentence("pass 1", "ends with piece 63 or before");
        stays(due, 63, 1, 50);
        stays(due, 62, 2, 50);
        stays(due, 1, 63, 50);
        stays(due, 0, 64, 50);
        goes(due, 64, 1, 50);
        goes(due, 63, 2, 50);
        goes(due, 1, 64, 50);
        goes(due, 0, 65, 50);
        goes(due, 65, 1, 50);
        goes(due, MAX, 1, 50);
    }

    private static void noWrap(Due due) {
        due.sentence("pass 1", "(length and sum can not wrap)");
        int[][] wraps = {{MAX, 2, 50}, {MAX, 1, 50}, {2, MAX, 50}, {1, MAX, 50}, {0, MAX, 50}, {MAX, MAX, 50},
            {MAX, MAX, MAX}, {MAX - 1, 3, 50}, {63, MAX - 61, 50}, {0, 2, MAX}, {0, 64, MAX - 20}, {0, MAX, MAX},
            {MIN, MAX, 9}, {MIN, MIN, 9}, {-1, MIN, 9}, {1 << 30, 1 << 30, 1 << 30}};
        for (int[] run : wraps) {
            goes(due, run);
            ImageChecker x = ofSize(-1, run);
            due.same(written(run) + " is nothing to take a size from", x.about(2, 1), 0);
            due.same(written(run) + " takes no block", x.told(0), 192);
        }
    }

    private static void rightBlocks(Due due) {
        due.sentence("pass 1", "has blocks of 9 .. 200 alone");
        stays(due, 0, 1, 9);
        stays(due, 0, 64, 9);
        stays(due, 0, 1, 200);
        stays(due, 0, 2, 199);
        stays(due, 0, 64, 137);
        goes(due, 0, 1, 8);
        goes(due, 0, 2, 8);
        goes(due, 0, 9, 1);
        goes(due, 0, 1, 0);
        goes(due, 0, 10, -1);
        goes(due, 0, 64, -50);
        goes(due, 0, 1, MIN);
        goes(due, 0, 1, 201);
        goes(due, 0, 2, 200);
        goes(due, 0, 64, 138);
        goes(due, 0, 1, MAX);
    }

    private static void rightSizes(Due due) {
        due.sentence("pass 1", "The size becomes, if it is not 0 .. 65,536:");
        for (int size : new int[] {0, 1, 1023, 1024, 7168, 65535, 65536}) {
            due.same("size " + size + " stays", ofSize(size, row(4, 3, 30)).about(2, 1), size);
            due.same("size " + size + " stays without runs", ofSize(size).about(2, 1), size);
        }
        for (int size : new int[] {-1, 65537, 65536 + 1024, MAX, MIN}) {
            due.same("size " + size, ofSize(size, row(4, 3, 30)).about(2, 1), 7168);
        }
        for (int kind = 1; kind <= 3; kind++) {
            ImageChecker x = Volume.hung(2, 65537).set(2, 0, kind).run(2, 5, 0, 1, 30).check().made();
            due.same("of kind " + kind, x.about(2, 1), 1024);
        }
    }

    private static void greatestEnd(Due due) {
        due.sentence("pass 1", "1,024 times the greatest end (first piece and length) of its right runs");
        due.same("the least", ofSize(-1, row(0, 1, 30)).about(2, 1), 1024);
        due.same("the greatest", ofSize(-1, row(63, 1, 30)).about(2, 1), 65536);
        due.same("of all 64 pieces", ofSize(-1, row(0, 64, 30)).about(2, 1), 65536);
        ImageChecker first = ofSize(-1, row(4, 3, 30), row(2, 1, 40), row(60, 5, 50), row(0, 1, 8));
        due.same("that of the first run, runs that are not right don't count", first.about(2, 1), 7168);
        ImageChecker later = ofSize(-1, row(0, 2, 30), row(63, 1, 31));
        due.same("that of a right run that goes later", later.about(2, 1), 65536);
        due.sameRuns("that run goes", later, 2, row(0, 2, 30));
        ImageChecker other = Volume.hung(2, -1).set(3, 0, 1).set(3, 1, 65536).run(3, 0, 9, 1, 30).check().made();
        due.same("runs of another file don't count", other.about(2, 1), 0);
        ImageChecker entries = Volume.hung(2, -1).set(2, 0, 2).entry(2, 0, 5, 2, 20).entry(2, 7, 5, 2, 20).check().made();
        due.same("entries don't count", entries.about(2, 1), 0);
        ImageChecker place = Volume.hung(2, -1).run(2, 5, 9, 1, 30).check().made();
        due.same("that of the run in the last place", place.about(2, 1), 10240);
    }

    private static void sizeWithoutRightRuns(Due due) {
        due.sentence("pass 1", "of its right runs, 0 without.");
        for (int size : new int[] {-1, 65537, MAX, MIN}) {
            due.same("no run, size " + size, ofSize(size).about(2, 1), 0);
            ImageChecker x = ofSize(size, row(5, 0, 30), row(64, 1, 30), row(-1, 2, 30), row(0, 1, 201));
            due.same("no right run, size " + size, x.about(2, 1), 0);
            due.sameRuns("no right run", x, 2);
        }
    }

    private static void places(Due due) {
        due.sentence("pass 1", "those that stay one behind the other from the first place on, all places behind them 0");
        int[][] six = {{0, 1, 20}, {1, 1, 22}, {2, 2, 24}, {9, 1, 30}, {20, 3, 9}, {63, 1, 200}};
        due.sameRuns("all six stay", checked(six), 2, six);
        for (int k = 0; k < 6; k++) {
            ImageChecker x = Volume.hung(2, 65536).run(2, k, 5, 1, 30).check().made();
            due.sameRuns("the only one, from place " + k, x, 2, row(5, 1, 30));
        }
        ImageChecker odd = Volume.hung(2, 65536).run(2, 1, 0, 1, 20).run(2, 3, 1, 1, 30).run(2, 5, 2, 1, 40).check().made();
        due.sameRuns("from places 1, 3, 5", odd, 2, row(0, 1, 20), row(1, 1, 30), row(2, 1, 40));
        ImageChecker folder = Volume.hung(2, 65536).set(2, 0, 2).entry(2, 0, 5, 2, 20).entry(2, 7, 5, 2, 20).check().made();
        due.sameRuns("an entry's numbers are no run", folder, 2);
    }

    private static void wrongRunsGo(Due due) {
        due.sentence("pass 1", "one that is not right (length 0, too) goes, and those behind it come up");
        ImageChecker x = checked(row(3, 0, 50), row(1, 1, 30), row(2, 2, 2), row(4, 1, 20), row(5, -3, 40), row(5, 2, 40));
        due.sameRuns("wrong ones between right ones", x, 2, row(1, 1, 30), row(4, 1, 20), row(5, 2, 40));
        for (int[] none : new int[][] {{0, 0, 50}, {7, 0, 0}, {MAX, 0, MIN}}) {
            Volume v = Volume.hung(2, 0).check().run(2, 4, none[0], none[1], none[2]);
            due.same("a run of length 0 with other numbers is mended: check()", v.checked(), 1);
            due.sameTables("a run of length 0 goes", v, Volume.hung(2, 0).check());
        }
        due.sameRuns("all six go", checked(row(0, 0, 9), row(0, 1, 8), row(-1, 1, 9), row(64, 1, 9), row(0, 65, 9),
            row(0, 1, 201)), 2);
        due.sameRuns("a wrong one is no run that stayed last", checked(row(50, 0, 30), row(40, 60, 30), row(2, 1, 30)), 2,
            row(2, 1, 30));
    }

    private static void shorter(Due due) {
        due.sentence("pass 1", "if it ends behind the last piece that the size needs "
            + "(size and 1,023, by 1,024, cut), it becomes shorter");
        int[][] sizeAndLength = {{65536, 10}, {10241, 10}, {10240, 10}, {10239, 10}, {9217, 10}, {9216, 9}, {9215, 9},
            {4097, 5}, {2049, 3}, {2048, 2}, {1025, 2}, {1024, 1}, {1023, 1}, {1, 1}};
        for (int[] each : sizeAndLength) {
            due.sameRuns("size " + each[0], ofSize(each[0], row(0, 10, 30)), 2, row(0, each[1], 30));
        }
        due.sameRuns("64 pieces, 65,536 bytes", ofSize(65536, row(0, 64, 30)), 2, row(0, 64, 30));
        due.sameRuns("64 pieces, 64,513 bytes", ofSize(64513, row(0, 64, 30)), 2, row(0, 64, 30));
        due.sameRuns("64 pieces, 64,512 bytes", ofSize(64512, row(0, 64, 30)), 2, row(0, 63, 30));
        due.sameRuns("the second one", ofSize(5000, row(0, 2, 30), row(3, 9, 40)), 2, row(0, 2, 30), row(3, 2, 40));
        due.same("the size stays", ofSize(5000, row(0, 60, 30)).about(2, 1), 5000);
    }

    private static void nothingLeft(Due due) {
        due.sentence("pass 1", "and goes, if nothing is left");
        due.sameRuns("size 0", ofSize(0, row(0, 10, 30)), 2);
        due.sameRuns("from the last piece that is needed on", ofSize(5000, row(4, 9, 30)), 2, row(4, 1, 30));
        due.sameRuns("from the first one that is not needed on", ofSize(5000, row(5, 9, 30)), 2);
        due.sameRuns("far behind it", ofSize(5000, row(63, 1, 30)), 2);
        due.sameRuns("those behind it come up", ofSize(5000, row(5, 1, 30), row(4, 9, 40), row(6, 1, 60)), 2, row(4, 1, 40));
    }

    private static void thenTheOthers(Due due) {
        due.sentence("pass 1", "it becomes shorter, and goes, if nothing is left; then it goes, if");
        ImageChecker x = Volume.hung(2, 1000).run(2, 0, 0, 1, 31).set(3, 0, 1).set(3, 1, 1024).run(3, 0, 0, 2, 30)
            .check().made();
        due.sameRuns("it is made shorter before its blocks are looked at", x, 3, row(0, 1, 30));
        ImageChecker y = Volume.hung(2, 1000).run(2, 0, 0, 9, 30).set(3, 0, 1).set(3, 1, 1024).run(3, 0, 0, 1, 31)
            .check().made();
        due.sameRuns("blocks that a shorter run left are free for others", y, 3, row(0, 1, 31));
    }

    private static void beforeTheEnd(Due due) {
        due.sentence("pass 1", "it goes, if it begins before the end of the run that stayed last");
        int[] first = {5, 2, 30};
        for (int piece : new int[] {0, 4, 5, 6}) {
            due.sameRuns("from piece " + piece, checked(first, row(piece, 1, 40)), 2, first);
        }
        for (int piece : new int[] {7, 8, 63}) {
            due.sameRuns("from piece " + piece, checked(first, row(piece, 1, 40)), 2, first, row(piece, 1, 40));
        }
        due.sameRuns("over the first one's pieces", checked(first, row(0, 64, 40)), 2, first);
        due.sameRuns("the one between went", checked(first, row(7, 20, 30), row(8, 1, 50)), 2, first, row(8, 1, 50));
        due.sameRuns("the last that stayed, not the first", checked(first, row(20, 5, 40), row(10, 1, 50), row(24, 1, 60),
            row(25, 1, 70)), 2, first, row(20, 5, 40), row(25, 1, 70));
        ImageChecker other = Volume.hung(2, 65536).run(2, 0, 5, 2, 30).set(3, 0, 1).set(3, 1, 65536).run(3, 0, 0, 1, 40)
            .check().made();
        due.sameRuns("another file begins anew", other, 3, row(0, 1, 40));
    }

    private static void blocksInRuns(Due due) {
        due.sentence("pass 1", "or if one of its blocks is in a run that stayed");
        int[] first = {0, 3, 30};
        for (int block : new int[] {26, 27, 28, 30, 31, 32}) {
            due.sameRuns("blocks from " + block, checked(first, row(9, 5, block)), 2, first);
        }
        for (int block : new int[] {9, 25, 33, 196}) {
            due.sameRuns("blocks from " + block, checked(first, row(9, 5, block)), 2, first, row(9, 5, block));
        }
        due.sameRuns("one that went holds no block", checked(first, row(9, 5, 28), row(9, 1, 28)), 2, first, row(9, 1, 28));
        due.sameRuns("one that was not right, neither", checked(row(0, 65, 30), row(9, 1, 30)), 2, row(9, 1, 30));
        due.sameRuns("the first block", checked(row(0, 1, 9), row(9, 1, 9)), 2, row(0, 1, 9));
        due.sameRuns("the last block", checked(row(0, 1, 200), row(9, 1, 200)), 2, row(0, 1, 200));
    }

    private static void ofThisFileOrOneBefore(Due due) {
        due.sentence("pass 1", "(of this file, or of one before)");
        due.sameRuns("of this file", checked(row(0, 1, 30), row(1, 1, 40), row(2, 1, 30), row(3, 1, 40)), 2, row(0, 1, 30),
            row(1, 1, 40));
        ImageChecker x = Volume.hung(3, 2048).run(3, 0, 0, 2, 30).set(2, 0, 2).set(2, 1, 1).run(2, 0, 0, 1, 31)
            .set(4, 0, 3).set(4, 1, 9999).run(4, 0, 0, 1, 30).run(4, 1, 1, 2, 29).run(4, 2, 1, 1, 32)
            .set(24, 0, 1).set(24, 1, 2048).run(24, 0, 0, 1, 31).run(24, 1, 1, 1, 33).check().made();
        due.sameRuns("the file before keeps the block", x, 2, row(0, 1, 31));
        due.sameRuns("the file behind loses its run", x, 3);
        due.sameRuns("what went from that one is free", x, 4, row(0, 1, 30), row(1, 1, 32));
        due.sameRuns("far behind", x, 24, row(1, 1, 33));
        Volume again = Volume.hung(2, 1024).run(2, 0, 0, 1, 30).check();
        due.same("blocks of an earlier check don't count: check()", again.checked(), 0);
    }

    private static void entriesOfNoFolder(Due due) {
        due.sentence("pass 1", "Entries of records that are no folders become 0.");
        for (int kind : new int[] {1, 3}) {
            for (int k = 0; k < 8; k++) {
                for (int[] entry : new int[][] {{1, 2, 1}, {9, 1, 2}, {0, 0, 1}, {MAX, MIN, -1}}) {
                    Volume v = Volume.hung(2, 0).set(2, 0, kind).check().entry(2, k, entry[0], entry[1], entry[2]);
                    due.same("an entry of kind " + kind + ": check()", v.checked(), 1);
                    due.sameTables("an entry of kind " + kind, v, Volume.hung(2, 0).set(2, 0, kind).check());
                }
            }
        }
        ImageChecker x = Volume.hung(2, 0).set(2, 0, 2).set(3, 0, 1).entry(2, 7, 9, 3, 1).check().made();
        due.sameEntries("an entry of a folder stays", x, 2, row(9, 3, 1));
    }
}
