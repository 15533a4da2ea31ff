/** Pass 5 of promise 9: bits, and how many are free. */
public final class BitPassTest {
    public static void main(String[] args) {
        Due due = new Due();
        allBitsWrong(due);
        bitsOfRuns(due);
        freeNumbers(due);
        due.end("BitPassTest");
    }

    private static void allBitsWrong(Due due) {
        Volume all = new Volume().bits(0, 1, 200).bits(1, 1, 24);
        due.same("all bits 1: check()", all.checked(), 16);
        due.sameTables("all bits 1", all, new Volume());
        Volume none = new Volume();
        for (int block = 1; block <= 200; block++) {
            none.bit(0, block, false);
        }
        none.bit(1, 1, false);
        due.same("all bits 0: check()", none.checked(), 16);
        due.sameTables("all bits 0", none, new Volume());
    }

    private static void bitsOfRuns(Due due) {
        ImageChecker x = new Volume().set(24, 0, 1).set(24, 1, 65536).run(24, 0, 0, 1, 9).run(24, 1, 1, 3, 198)
            .entry(1, 0, 1, 24, 1).set(2, 0, 3).set(2, 1, 2048).run(2, 0, 1, 1, 50).hold(2, true).tell(2, 2)
            .set(3, 0, 4).set(3, 1, 1024).run(3, 0, 0, 1, 60).check().made();
        for (int block = 1; block <= 200; block++) {
            boolean taken = block <= 9 || block == 50 || block >= 198;
            due.same("block " + block, x.isTaken(0, block) ? 1 : 0, taken ? 1 : 0);
        }
        for (int file = 1; file <= 24; file++) {
            boolean taken = file <= 2 || file == 24;
            due.same("file " + file, x.isTaken(1, file) ? 1 : 0, taken ? 1 : 0);
        }
        due.same("free blocks", x.told(0), 187);
        due.same("free files", x.told(1), 21);
    }

    private static void freeNumbers(Due due) {
        for (int value : new int[] {0, -1, 191, 193, 200, Integer.MAX_VALUE, Integer.MIN_VALUE}) {
            Volume v = new Volume().tell(0, value).tell(1, value);
            due.same("free " + value + ": check()", v.checked(), 16);
            due.sameTables("free " + value, v, new Volume());
        }
        Volume full = new Volume().set(2, 0, 1).set(2, 1, 65536).run(2, 0, 0, 64, 9).set(3, 0, 1).set(3, 1, 65536)
            .run(3, 0, 0, 64, 73).set(4, 0, 1).set(4, 1, 65536).run(4, 0, 0, 64, 137).check();
        due.same("no block is free", full.made().told(0), 0);
    }
}
