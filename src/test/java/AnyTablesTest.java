import java.util.Random;

/**
 * Promises 9 and 15 on many tables of any numbers: all numbers and answers against the model's,
 * and a check behind a check mends nothing. The seeds are written, so each run is the same.
 */
public final class AnyTablesTest {
    private static final int VOLUMES = 4000;
    private static final int MOST_CALLS = 300;
    private static final int[] ODD = {0, -1, 25, 256, 65537, Integer.MAX_VALUE, Integer.MIN_VALUE, -2, 1 << 30, 201};

    private final Random random;
    private final Due due;
    private final Volume volume = new Volume();
    private final Model model = new Model();
    private final int oddOneIn;

    private AnyTablesTest(long seed, Due due) {
        random = new Random(seed);
        this.due = due;
        oddOneIn = new int[] {4, 15, 60, 100000}[random.nextInt(4)];
    }

    public static void main(String[] args) {
        Due due = new Due();
        for (int seed = 1; seed <= VOLUMES; seed++) {
            new AnyTablesTest(seed, due).volume("seed " + seed);
        }
        due.end("AnyTablesTest");
    }

    private void volume(String what) {
        if (random.nextInt(3) > 0) {
            someFiles();
        }
        if (random.nextInt(3) == 0) {
            fullFolder(file());
        }
        int checks = 1 + random.nextInt(3);
        for (int i = 0; i < checks; i++) {
            int calls = 1 + random.nextInt(i == 0 ? 60 : 10);
            for (int call = 0; call < calls && volume.calls() < MOST_CALLS; call++) {
                anyCall();
            }
            paths(what + ", before check " + i);
            due.same(what + ", check " + i, volume.checked(), model.check());
            due.sameNumbers(what + ", check " + i, volume.numbers(), model.numbers());
            paths(what + ", behind check " + i);
            due.same(what + ", again behind check " + i, volume.made().check(), 0);
        }
    }

    private int pick(int from, int to) {
        return random.nextInt(oddOneIn) == 0 ? ODD[random.nextInt(ODD.length)] : from + random.nextInt(to - from + 1);
    }

    private int file() {
        return 1 + random.nextInt(24);
    }

    /** Many files of right kinds, so that folders, rings and full roots come about. */
    private void someFiles() {
        int count = 3 + random.nextInt(21);
        for (int file = 2; file <= 1 + count; file++) {
            set(file, 0, random.nextInt(3) == 0 ? 2 : pick(1, 3));
            if (random.nextBoolean()) {
                set(file, 1, pick(0, 65536));
                run(file, random.nextInt(6), pick(0, 20), pick(1, 12), pick(9, 200));
            }
            if (random.nextBoolean()) {
                entry(random.nextInt(3) == 0 ? 1 : file(), random.nextInt(8), pick(1, 20), file, pick(1, 3));
            }
        }
    }

    private void fullFolder(int folder) {
        set(folder, 0, 2);
        for (int k = 0; k < 8; k++) {
            entry(folder, k, pick(1, 255), pick(2, 24), pick(1, 3));
        }
    }

    private void anyCall() {
        switch (random.nextInt(12)) {
            case 0 -> set(file(), 0, pick(1, 3));
            case 1 -> set(file(), 1, pick(0, 65536));
            case 2 -> set(file(), 2 + random.nextInt(3), pick(0, 3));
            case 3, 4 -> run(file(), random.nextInt(6), pick(0, 63), pick(0, 20), pick(9, 200));
            case 5, 6, 7 -> entry(random.nextInt(3) == 0 ? 1 : file(), random.nextInt(8), pick(1, 12), pick(1, 24), pick(1, 3));
            case 8 -> set(file(), 3, pick(1, 24));
            case 9 -> hold(file(), random.nextInt(4) > 0);
            case 10 -> tell(2, pick(1, 24));
            default -> rareCall();
        }
    }

    private void rareCall() {
        switch (random.nextInt(5)) {
            case 0 -> bit(random.nextInt(2), file(), random.nextBoolean());
            case 1 -> tell(random.nextInt(2), pick(0, 200));
            case 2 -> bit(0, 1 + random.nextInt(200), true);
            case 3 -> set(1, 0, pick(1, 3));
            default -> {
                if (random.nextInt(20) == 0) {
                    volume.clear();
                    model.clear();
                }
            }
        }
    }

    private void paths(String what) {
        ImageChecker x = volume.made();
        for (int i = 0; i < 30; i++) {
            long path = 0;
            for (int name = random.nextInt(9); name > 0; name--) {
                path = path << 8 | 1 + random.nextInt(12);
            }
            due.same(what + ": find(" + path + ")", x.find(path), model.find(path));
        }
        long any = random.nextLong();
        due.same(what + ": find(" + any + ")", x.find(any), model.find(any));
    }

    private void set(int file, int number, int value) {
        volume.set(file, number, value);
        model.set(file, number, value);
    }

    private void run(int file, int k, int piece, int length, int block) {
        volume.run(file, k, piece, length, block);
        model.run(file, k, piece, length, block);
    }

    private void entry(int file, int k, int name, int of, int kind) {
        volume.entry(file, k, name, of, kind);
        model.entry(file, k, name, of, kind);
    }

    private void hold(int file, boolean is) {
        volume.hold(file, is);
        model.hold(file, is);
    }

    private void bit(int kind, int number, boolean taken) {
        volume.bit(kind, number, taken);
        model.bit(kind, number, taken);
    }

    private void tell(int what, int value) {
        volume.tell(what, value);
        model.tell(what, value);
    }
}
