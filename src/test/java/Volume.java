import java.util.ArrayList;
import java.util.List;
import java.util.function.Consumer;

/**
 * A run of calls that can be made again on a new object. An object answers for 512 calls alone,
 * and its tables have more numbers than that, so they are read from several objects, each of
 * which has got the same calls before.
 */
final class Volume {
    static final int FILES = 24;
    static final int BLOCKS = 200;
    static final int OF_FILE = 5 + 6 * 3 + 8 * 3;
    private static final int BLOCK_BITS_AT = FILES * OF_FILE;
    private static final int FILE_BITS_AT = BLOCK_BITS_AT + BLOCKS;
    private static final int TOLD_AT = FILE_BITS_AT + FILES;
    static final int NUMBERS = TOLD_AT + 3;
    static final int CALLS_OF_OBJECT = 512;

    private final List<Consumer<ImageChecker>> calls = new ArrayList<>();

    /** A plain file of so many bytes that hangs in the root, whose first entry is its. */
    static Volume hung(int file, int size) {
        return new Volume().set(file, 0, 1).set(file, 1, size).entry(1, 0, 1, file, 1);
    }

    /** A root with so many plain files, 24 and down, under the names 1 and up. */
    static Volume rootWith(int files) {
        Volume v = new Volume();
        for (int k = 0; k < files; k++) {
            v.set(24 - k, 0, 1).entry(1, k, k + 1, 24 - k, 1);
        }
        return v;
    }

    /** Whole tables with all that can be in them: folders, files with runs, links, files that wait. */
    static Volume full() {
        return new Volume()
            .set(1, 2, 3).set(1, 1, 1024).run(1, 0, 0, 1, 9)
            .entry(1, 0, 200, 2, 2).entry(1, 1, 7, 3, 1).entry(1, 2, 8, 3, 1).entry(1, 3, 9, 6, 3)
            .record(2, 2, 0, 3, 0, 1).entry(2, 0, 7, 4, 2).entry(2, 1, 8, 3, 1)
            .record(3, 1, 65536, 3, 0, 0)
            .run(3, 0, 0, 10, 191).run(3, 1, 10, 2, 20).run(3, 2, 30, 1, 19).run(3, 3, 40, 1, 18)
            .run(3, 4, 50, 1, 17).run(3, 5, 61, 3, 100)
            .record(4, 2, 5, 2, 0, 2)
            .record(6, 3, 1, 1, 0, 0).run(6, 0, 0, 1, 10)
            .record(7, 1, 2048, 0, 5, 0).run(7, 0, 1, 1, 11).hold(7, true)
            .record(5, 3, 0, 0, 0, 0).hold(5, true)
            .tell(2, 7)
            .bits(0, 9, 11).bits(0, 17, 21).bits(0, 100, 102).bits(0, 191, 200).bits(1, 1, 7)
            .tell(0, 192 - 21).tell(1, 24 - 7);
    }

    /** The numbers of whole tables, as the document's terms tell them. */
    static int[] wholeNumbers() {
        int[] whole = new int[NUMBERS];
        for (int i = 0; i < NUMBERS; i++) {
            whole[i] = switch (nameOf(i)) {
                case "about(1, 0)", "about(1, 2)" -> 2;
                case "about(1, 4)", "isTaken(1, 1)" -> 1;
                case "told(0)" -> 192;
                case "told(1)" -> 23;
                default -> nameOf(i).matches("isTaken\\(0, [1-8]\\)") ? 1 : 0;
            };
        }
        return whole;
    }

    Volume kinds(int kind, int... files) {
        for (int file : files) {
            set(file, 0, kind);
        }
        return this;
    }

    Volume clear() { return then(ImageChecker::clear); }

    Volume set(int file, int what, int value) { return then(x -> x.set(file, what, value)); }

    Volume run(int file, int k, int piece, int length, int block) {
        return then(x -> x.run(file, k, piece, length, block));
    }

    Volume entry(int file, int k, int name, int of, int kind) {
        return then(x -> x.entry(file, k, name, of, kind));
    }

    Volume hold(int file, boolean is) { return then(x -> x.hold(file, is)); }

    Volume bit(int kind, int number, boolean taken) { return then(x -> x.bit(kind, number, taken)); }

    Volume bits(int kind, int first, int last) {
        for (int number = first; number <= last; number++) {
            bit(kind, number, true);
        }
        return this;
    }

    Volume tell(int what, int value) { return then(x -> x.tell(what, value)); }

    Volume check() { return then(ImageChecker::check); }

    Volume find(long path) { return then(x -> x.find(path)); }

    /** A record's five numbers, in the order of set(). */
    Volume record(int file, int kind, int size, int links, int behind, int parent) {
        return set(file, 0, kind).set(file, 1, size).set(file, 2, links).set(file, 3, behind).set(file, 4, parent);
    }

    /** A call that must be refused; one that is not is seen by the root's kind, if by nothing else. */
    Volume refused(Consumer<ImageChecker> call) {
        return then(x -> {
            try {
                call.accept(x);
                x.set(1, 0, -1);
            } catch (IllegalArgumentException e) {
                return;
            }
        });
    }

    private Volume then(Consumer<ImageChecker> call) {
        calls.add(call);
        return this;
    }

    int calls() { return calls.size(); }

    /** A new object that has got all the calls. */
    ImageChecker made() {
        ImageChecker x = new ImageChecker();
        for (Consumer<ImageChecker> call : calls) {
            call.accept(x);
        }
        return x;
    }

    /** What one more check() answers; it is a call of this volume from then on. */
    int checked() {
        int answer = made().check();
        check();
        return answer;
    }

    int[] numbers() {
        int left = CALLS_OF_OBJECT - calls.size();
        if (left < 1) {
            throw new IllegalStateException("no call is left to read a number with");
        }
        int[] numbers = new int[NUMBERS];
        ImageChecker x = null;
        for (int i = 0; i < NUMBERS; i++) {
            if (i % left == 0) {
                x = made();
            }
            numbers[i] = read(x, i);
        }
        return numbers;
    }

    private static int read(ImageChecker x, int i) {
        if (i >= TOLD_AT) {
            return x.told(i - TOLD_AT);
        }
        if (i >= FILE_BITS_AT) {
            return x.isTaken(1, i - FILE_BITS_AT + 1) ? 1 : 0;
        }
        if (i >= BLOCK_BITS_AT) {
            return x.isTaken(0, i - BLOCK_BITS_AT + 1) ? 1 : 0;
        }
        int file = i / OF_FILE + 1;
        int at = i % OF_FILE;
        if (at < 5) {
            return x.about(file, at);
        }
        return at < 23 ? x.runOf(file, (at - 5) / 3, (at - 5) % 3) : x.entryOf(file, (at - 23) / 3, (at - 23) % 3);
    }

    static String nameOf(int i) {
        if (i >= TOLD_AT) {
            return "told(" + (i - TOLD_AT) + ")";
        }
        if (i >= FILE_BITS_AT) {
            return "isTaken(1, " + (i - FILE_BITS_AT + 1) + ")";
        }
        if (i >= BLOCK_BITS_AT) {
            return "isTaken(0, " + (i - BLOCK_BITS_AT + 1) + ")";
        }
        int file = i / OF_FILE + 1;
        int at = i % OF_FILE;
        if (at < 5) {
            return "about(" + file + ", " + at + ")";
        }
        String call = at < 23 ? "runOf(" : "entryOf(";
        int part = at < 23 ? at - 5 : at - 23;
        return call + file + ", " + part / 3 + ", " + part % 3 + ")";
    }
}
