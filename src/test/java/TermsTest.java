/** The document's terms, a test for each sentence that names an edge. */
public final class TermsTest {
    private static final int MAX = Integer.MAX_VALUE;
    private static final int MIN = Integer.MIN_VALUE;

    public static void main(String[] args) {
        Due due = new Due();
        files(due);
        theRoot(due);
        blocks(due);
        fixedBlocks(due);
        bytesOfBlocks(due);
        pieces(due);
        runsOfLengthZero(due);
        entriesMatterInFolders(due);
        names(due);
        bitsOfEach(due);
        heldFiles(due);
        anyInt(due);
        anyIntOfTheRoot(due);
        wholeTables(due);
        mended(due);
        oneBehindTheOther(due);
        due.end("TermsTest");
    }

    private static int[] row(int... numbers) {
        return numbers;
    }

    private static void files(Due due) {
        due.sentence("Terms", "FILES have numbers 1 .. 24");
        for (int file = 1; file <= 24; file++) {
            ImageChecker x = new ImageChecker();
            x.set(file, 1, 100 + file);
            for (int other = 1; other <= 24; other++) {
                due.same("size of file " + other, x.about(other, 1), other == file ? 100 + file : 0);
            }
        }
        ImageChecker x = new ImageChecker();
        due.refuses("file 0", () -> x.about(0, 0));
        due.refuses("file 25", () -> x.about(25, 0));
    }

    private static void theRoot(Due due) {
        due.sentence("Terms", "file 1 is the ROOT");
        ImageChecker x = new ImageChecker();
        due.same("the root", x.find(0), 1);
        due.same("its kind", x.about(1, 0), 2);
        due.same("another's kind", x.about(2, 0), 0);
    }

    private static void blocks(Due due) {
        due.sentence("Terms", "BLOCKS have numbers 1 .. 200");
        for (int block = 1; block <= 200; block++) {
            ImageChecker x = new ImageChecker();
            boolean was = x.isTaken(0, block);
            x.bit(0, block, !was);
            for (int other = 1; other <= 200; other++) {
                due.same("block " + other, x.isTaken(0, other) ? 1 : 0, (other <= 8) != (other == block) ? 1 : 0);
            }
        }
        ImageChecker x = new ImageChecker();
        due.refuses("block 0", () -> x.isTaken(0, 0));
        due.refuses("block 201", () -> x.isTaken(0, 201));
    }

    private static void fixedBlocks(Due due) {
        due.sentence("Terms", "1 to 8 are FIXED");
        for (int block = 1; block <= 10; block++) {
            ImageChecker x = Volume.hung(2, 1024).run(2, 0, 0, 1, block).check().made();
            due.sameRuns("a run of block " + block, x, 2, block <= 8 ? new int[3] : row(0, 1, block));
            due.same("block 8", x.isTaken(0, 8) ? 1 : 0, 1);
            due.same("block 9", x.isTaken(0, 9) ? 1 : 0, block == 9 ? 1 : 0);
            due.same("free blocks", x.told(0), block <= 8 ? 192 : 191);
        }
    }

    private static void bytesOfBlocks(Due due) {
        due.sentence("Terms", "a block has 1,024 bytes");
        due.same("size of one block", Volume.hung(2, -1).run(2, 0, 0, 1, 20).check().made().about(2, 1), 1024);
        due.same("size of two blocks", Volume.hung(2, -1).run(2, 0, 0, 2, 20).check().made().about(2, 1), 2048);
    }

    private static void pieces(Due due) {
        due.sentence("Terms", "(piece k are bytes 1,024 k to 1,024 k + 1,023 of the file)");
        for (int k : new int[] {0, 1, 2, 31, 62, 63}) {
            for (int size : new int[] {1024 * k + 1, 1024 * k + 1023, 1024 * k + 1024}) {
                ImageChecker x = Volume.hung(2, size).run(2, 0, k, 1, 20).check().made();
                due.sameRuns("piece " + k + " of " + size + " bytes", x, 2, row(k, 1, 20));
            }
            ImageChecker x = Volume.hung(2, 1024 * k).run(2, 0, k, 1, 20).check().made();
            due.sameRuns("piece " + k + " of " + 1024 * k + " bytes", x, 2);
        }
    }

    private static void runsOfLengthZero(Due due) {
        due.sentence("Terms", "a run whose length is 0 is none");
        for (int[] none : new int[][] {{0, 0, 20}, {5, 0, 9}, {63, 0, 200}, {MAX, 0, MIN}, {-1, 0, 201}, {1, 0, 0}}) {
            ImageChecker x = Volume.hung(2, 65537).run(2, 0, none[0], none[1], none[2]).set(3, 0, 1).set(3, 1, 1024)
                .run(3, 0, 0, 1, 20).check().made();
            due.sameRuns("it goes", x, 2);
            due.same("no size comes from it", x.about(2, 1), 0);
            due.sameRuns("its block is free for others", x, 3, row(0, 1, 20));
            due.same("it takes no block", x.told(0), 191);
        }
        Volume six = new Volume().set(1, 1, 1);
        due.same("six of them with all numbers 0 are whole: check()", six.checked(), 0);
    }

    private static void entriesMatterInFolders(Due due) {
        due.sentence("Terms", "of each file 8 ENTRIES (that matter in folders)");
        ImageChecker x = Volume.hung(2, 0).set(3, 0, 1).entry(2, 0, 9, 3, 1).check().made();
        due.same("a plain file's entry does not reach another: it hangs in the root", x.find(2), 3);
        due.same("it counts for no links", x.about(3, 2), 1);
        Volume full = new Volume().set(2, 0, 1);
        for (int k = 0; k < 8; k++) {
            full.entry(1, k, k + 1, 2, 1);
        }
        due.same("all eight of a folder count", full.check().made().about(2, 2), 8);
    }

    private static void names(Due due) {
        due.sentence("Terms", "name (1 to 255; 0: none)");
        for (int name : new int[] {1, 255}) {
            due.same("name " + name, new Volume().set(2, 0, 1).entry(1, 0, name, 2, 1).check().made().find(name), 2);
        }
        Volume none = new Volume().entry(1, 0, 0, 2, 1).set(2, 0, 1);
        due.same("0 is none: check()", none.checked(), 2 + 4 + 8 + 16);
        due.same("256 is none: check()", new Volume().entry(1, 0, 256, 2, 1).set(2, 0, 1).checked(), 2 + 4 + 8 + 16);
        due.same("entries of 0 alone are whole: check()", new Volume().entry(1, 3, 0, 0, 0).checked(), 0);
    }

    private static void bitsOfEach(Due due) {
        due.sentence("Terms", "for each block and each file a BIT, whether it is taken");
        ImageChecker x = new ImageChecker();
        for (int number = 1; number <= 24; number++) {
            x.bit(0, number, number % 2 == 0);
            x.bit(1, number, number % 2 != 0);
        }
        for (int number = 1; number <= 24; number++) {
            due.same("block " + number, x.isTaken(0, number) ? 1 : 0, number % 2 == 0 ? 1 : 0);
            due.same("file " + number, x.isTaken(1, number) ? 1 : 0, number % 2 != 0 ? 1 : 0);
        }
    }

    private static void heldFiles(Due due) {
        due.sentence("Terms", "Some files are HELD; that is no number in the tables.");
        Volume v = new Volume();
        for (int file = 1; file <= 24; file++) {
            v.hold(file, true);
        }
        due.sameNumbers("all files held", v.numbers(), Volume.wholeNumbers());
        due.same("all files held: check()", v.checked(), 0);
        due.sameNumbers("all files held, checked", v.numbers(), Volume.wholeNumbers());
    }

    private static void anyInt(Due due) {
        due.sentence("Terms", "Any number in them may be any int (bits 0 or 1)");
        for (int any : new int[] {MIN, MIN + 1, -1, 0, 1, 2, 3, 24, 25, 255, 256, 65536, 1 << 30, MAX - 1, MAX}) {
            Volume v = new Volume();
            for (int file = 2; file <= 24; file++) {
                filled(v, file, any);
            }
            v.tell(0, any).tell(1, any).tell(2, any);
            int[] got = v.numbers();
            for (int i = Volume.OF_FILE; i < 24 * Volume.OF_FILE; i++) {
                due.same(Volume.nameOf(i), got[i], any);
            }
            ImageChecker x = v.made();
            x.check();
            due.same("checked once, each number being " + any + ": check()", x.check(), 0);
            due.same("files that are left", 24 - x.told(1), any >= 1 && any <= 3 ? 9 : 1);
        }
    }

    private static void anyIntOfTheRoot(Due due) {
        due.sentence("Terms", "the root's, too, until they are checked");
        for (int any : new int[] {MIN, -1, 0, 1, 2, 3, 24, 25, 255, 256, 65536, MAX}) {
            Volume v = filled(new Volume(), 1, any);
            int[] got = v.numbers();
            for (int i = 0; i < Volume.OF_FILE; i++) {
                due.same(Volume.nameOf(i), got[i], any);
            }
            Volume want = any == 2 ? new Volume().set(1, 1, 2) : new Volume();
            due.same("each number being " + any + ": check()", v.checked(), any == 2 ? 1 + 2 + 8 : 1 + 8);
            due.sameTables("each number being " + any, v, want);
        }
    }

    /** All numbers of a file become one int. */
    private static Volume filled(Volume v, int file, int any) {
        v.record(file, any, any, any, any, any);
        for (int k = 0; k < 6; k++) {
            v.run(file, k, any, any, any);
        }
        for (int k = 0; k < 8; k++) {
            v.entry(file, k, any, any, any);
        }
        return v;
    }

    private static void wholeTables(Due due) {
        due.sentence("Terms", "WHOLE tables are at first: the root, a folder without entries, of size 0, with 2 links and "
            + "parent 1, is all that is there; bits of fixed blocks and of it are 1; 192 blocks and 23 files are free; "
            + "nothing waits.");
        due.sameNumbers("at first", new Volume().numbers(), Volume.wholeNumbers());
        ImageChecker x = new ImageChecker();
        due.same("kind", x.about(1, 0), 2);
        due.same("size", x.about(1, 1), 0);
        due.same("links", x.about(1, 2), 2);
        due.same("behind", x.about(1, 3), 0);
        due.same("parent", x.about(1, 4), 1);
        due.same("bit of block 8", x.isTaken(0, 8) ? 1 : 0, 1);
        due.same("bit of block 9", x.isTaken(0, 9) ? 1 : 0, 0);
        due.same("bit of the root", x.isTaken(1, 1) ? 1 : 0, 1);
        due.same("bit of file 2", x.isTaken(1, 2) ? 1 : 0, 0);
        due.same("free blocks", x.told(0), 192);
        due.same("free files", x.told(1), 23);
        due.same("the first one that waits", x.told(2), 0);
    }

    private static void mended(Due due) {
        due.sentence("Terms", "Something is mended in a pass, if some number in the tables (runs, entries and bits, too) is "
            + "another one behind it than before it.");
        for (int part = 0; part < 3; part++) {
            int p = part == 0 ? 1 : 0;
            int q = part == 1 ? 1 : 0;
            int r = part == 2 ? 1 : 0;
            for (int k = 0; k < 6; k++) {
                due.same("one number of a run: check()", new Volume().run(24, k, p, q, r).checked(), 1);
                due.same("one number of the root's run: check()", new Volume().run(1, k, p, q, r).checked(), 1);
            }
            for (int k = 0; k < 8; k++) {
                due.same("one number of an entry: check()", new Volume().entry(24, k, p, q, r).checked(), 1);
                due.same("one number of the root's entry: check()", new Volume().entry(1, k, p, q, r).checked(), 2);
            }
        }
        for (int block = 1; block <= 200; block++) {
            due.same("one block's bit: check()", new Volume().bit(0, block, block > 8).checked(), 16);
        }
        for (int file = 1; file <= 24; file++) {
            due.same("one file's bit: check()", new Volume().bit(1, file, file > 1).checked(), 16);
        }
        due.same("nothing went that was there: check()", new Volume().run(9, 2, 0, 0, 0).entry(9, 2, 0, 0, 0).checked(), 0);
    }

    private static void oneBehindTheOther(Due due) {
        due.sentence("Terms", "CHECKING goes by these passes, one behind the other.");
        due.same("a record that goes in pass 1 takes an entry in pass 2: check()",
            new Volume().set(5, 0, 9).entry(1, 0, 1, 5, 1).checked(), 1 + 2);
        due.same("an entry that goes in pass 2 lets a file hang in pass 3: check()",
            new Volume().record(5, 1, 0, 1, 0, 0).entry(1, 0, 256, 5, 1).bit(1, 5, true).tell(1, 22).checked(), 2 + 4);
        due.same("a record that goes in pass 3 is in no list in pass 4, and its bit goes in pass 5: check()",
            new Volume().set(5, 0, 1).tell(2, 5).bit(1, 5, true).tell(1, 22).checked(), 4 + 8 + 16);
    }
}
