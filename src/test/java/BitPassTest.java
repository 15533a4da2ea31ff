/** Pass 5 of promise 9, a test for each of its sentences. */
public final class BitPassTest {
    public static void main(String[] args) {
        Due due = new Due();
        fixedBlocks(due);
        blocksInRuns(due);
        files(due);
        allOthers(due);
        freeNumbers(due);
        allTaken(due);
        allFree(due);
        due.end("BitPassTest");
    }

    private static int bit(ImageChecker x, int kind, int number) {
        return x.isTaken(kind, number) ? 1 : 0;
    }

    private static void fixedBlocks(Due due) {
        due.sentence("pass 5", "BITS become 1 for fixed blocks");
        for (int block = 1; block <= 8; block++) {
            Volume v = new Volume().bit(0, block, false);
            due.same("block " + block + ": check()", v.checked(), 16);
            due.sameTables("block " + block, v, new Volume());
        }
        Volume none = new Volume();
        for (int block = 1; block <= 200; block++) {
            none.bit(0, block, false);
        }
        due.same("no bit is 1: check()", none.checked(), 16);
        due.sameTables("no bit is 1", none, new Volume());
    }

    private static void blocksInRuns(Due due) {
        due.sentence("pass 5", "and those in runs");
        ImageChecker x = Volume.hung(24, 65536).run(24, 0, 0, 1, 9).run(24, 1, 1, 3, 198)
            .set(2, 0, 3).set(2, 1, 2048).run(2, 0, 1, 1, 50).hold(2, true).tell(2, 2)
            .set(1, 1, 65536).run(1, 0, 0, 1, 80).run(1, 1, 1, 1, 82).run(1, 2, 2, 1, 84).run(1, 3, 3, 1, 86)
            .run(1, 4, 4, 1, 88).run(1, 5, 5, 1, 90).check().made();
        for (int block = 9; block <= 200; block++) {
            boolean taken = block == 9 || block == 50 || block >= 198 || block >= 80 && block <= 90 && block % 2 == 0;
            due.same("block " + block, bit(x, 0, block), taken ? 1 : 0);
        }
        due.same("free blocks", x.told(0), 192 - 11);
        ImageChecker all = Volume.hung(2, 65536).run(2, 0, 0, 64, 100).check().made();
        for (int block = 98; block <= 165; block++) {
            due.same("a run of 64, block " + block, bit(all, 0, block), block >= 100 && block <= 163 ? 1 : 0);
        }
    }

    private static void files(Due due) {
        due.sentence("pass 5", "and for files of another kind than 0");
        for (int kind = 1; kind <= 3; kind++) {
            for (int file : new int[] {2, 13, 24}) {
                ImageChecker x = Volume.hung(file, 0).set(file, 0, kind).check().made();
                for (int each = 1; each <= 24; each++) {
                    due.same("kind " + kind + ", file " + each, bit(x, 1, each), each == 1 || each == file ? 1 : 0);
                }
            }
        }
        Volume root = new Volume().bit(1, 1, false);
        due.same("the root: check()", root.checked(), 16);
        due.sameTables("the root", root, new Volume());
        ImageChecker waits = new Volume().set(7, 0, 1).hold(7, true).tell(2, 7).check().made();
        due.same("one that waits on", bit(waits, 1, 7), 1);
    }

    private static void allOthers(Due due) {
        due.sentence("pass 5", "for files of another kind than 0; all others 0.");
        for (int block = 9; block <= 200; block++) {
            due.same("block " + block + ": check()", new Volume().bit(0, block, true).checked(), 16);
        }
        for (int file = 2; file <= 24; file++) {
            due.same("file " + file + ": check()", new Volume().bit(1, file, true).checked(), 16);
        }
        Volume all = new Volume().bits(0, 1, 200).bits(1, 1, 24);
        due.same("all bits are 1: check()", all.checked(), 16);
        due.sameTables("all bits are 1", all, new Volume());
        Volume went = new Volume().set(3, 0, 4).set(3, 1, 1024).run(3, 0, 0, 1, 60).bit(0, 60, true).bit(1, 3, true)
            .set(5, 0, 1).set(5, 1, 1024).run(5, 0, 0, 1, 70).bit(0, 70, true).bit(1, 5, true).tell(2, 5);
        due.same("blocks and files of records that went: check()", went.checked(), 1 + 4 + 8 + 16);
        due.sameTables("blocks and files of records that went", went, new Volume());
        ImageChecker shorter = Volume.hung(2, 1024).run(2, 0, 0, 2, 60).bit(0, 61, true).check().made();
        due.same("a block that a run lost", bit(shorter, 0, 61), 0);
    }

    private static void freeNumbers(Due due) {
        due.sentence("pass 5", "Free ones become how many are 0.");
        for (int value : new int[] {0, -1, 22, 24, 191, 193, 200, Integer.MAX_VALUE, Integer.MIN_VALUE}) {
            Volume blocks = new Volume().tell(0, value);
            due.same("blocks, told " + value + ": check()", blocks.checked(), 16);
            due.sameTables("blocks, told " + value, blocks, new Volume());
            Volume files = new Volume().tell(1, value);
            due.same("files, told " + value + ": check()", files.checked(), 16);
            due.sameTables("files, told " + value, files, new Volume());
        }
        ImageChecker x = Volume.hung(2, 5000).run(2, 0, 0, 2, 20).run(2, 1, 3, 1, 30).set(3, 0, 2).check().made();
        due.same("three blocks are taken", x.told(0), 189);
        due.same("two files are taken", x.told(1), 21);
    }

    private static void allTaken(Due due) {
        due.sentence("pass 5", "Free ones become how many are 0.");
        Volume blocks = new Volume().kinds(1, 2, 3, 4).set(2, 1, 65536).run(2, 0, 0, 64, 9).set(3, 1, 65536)
            .run(3, 0, 0, 64, 73).set(4, 1, 65536).run(4, 0, 0, 64, 137).check();
        due.same("no block is free", blocks.made().told(0), 0);
        due.same("no block is free, free files", blocks.made().told(1), 20);
        due.same("no block is free, again: check()", blocks.checked(), 0);
        Volume files = new Volume();
        for (int file = 2; file <= 24; file++) {
            files.set(file, 0, 2).entry(file - 1, 0, 1, file, 2);
        }
        due.same("no file is free", files.check().made().told(1), 0);
        due.same("no file is free, free blocks", files.made().told(0), 192);
        due.same("no file is free, again: check()", files.checked(), 0);
    }

    private static void allFree(Due due) {
        due.sentence("Terms", "192 blocks and 23 files are free");
        Volume v = Volume.hung(2, 65536).run(2, 0, 0, 64, 9).check().set(2, 0, 0).check();
        due.same("as many blocks as can be", v.made().told(0), 192);
        due.same("as many files as can be", v.made().told(1), 23);
        due.sameTables("as many as can be", v, new Volume());
    }
}
