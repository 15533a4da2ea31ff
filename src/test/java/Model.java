import java.util.ArrayList;
import java.util.Arrays;
import java.util.HashSet;
import java.util.List;
import java.util.Set;

/**
 * The document's rules written a second time, with lists and sets and from the definitions,
 * without regard to speed: AnyTablesTest compares the class with it.
 */
final class Model {
    private static final class File {
        int kind, size, links, behind, parent;
        List<int[]> runs = new ArrayList<>();
        List<int[]> entries = new ArrayList<>();

        File() { wipe(); }

        void wipe() {
            kind = size = links = behind = parent = 0;
            runs = padded(new ArrayList<>(), 6);
            entries = padded(new ArrayList<>(), 8);
        }
    }

    private final File[] files = new File[25];
    private final boolean[] held = new boolean[25];
    private final boolean[] blockBits = new boolean[201];
    private final boolean[] fileBits = new boolean[25];
    private final int[] told = new int[3];
    private List<Integer> waitOn = new ArrayList<>();

    Model() {
        for (int f = 0; f <= 24; f++) {
            files[f] = new File();
        }
        clear();
    }

    private static List<int[]> padded(List<int[]> some, int count) {
        while (some.size() < count) {
            some.add(new int[3]);
        }
        return some;
    }

    void clear() {
        for (int f = 1; f <= 24; f++) {
            files[f].wipe();
            held[f] = false;
            fileBits[f] = f == 1;
        }
        files[1].kind = files[1].links = 2;
        files[1].parent = 1;
        for (int b = 1; b <= 200; b++) {
            blockBits[b] = b <= 8;
        }
        told[0] = 192;
        told[1] = 23;
        told[2] = 0;
    }

    void set(int file, int what, int value) {
        switch (what) {
            case 0 -> files[file].kind = value;
            case 1 -> files[file].size = value;
            case 2 -> files[file].links = value;
            case 3 -> files[file].behind = value;
            default -> files[file].parent = value;
        }
    }

    void run(int file, int k, int piece, int length, int block) {
        files[file].runs.set(k, new int[] {piece, length, block});
    }

    void entry(int file, int k, int name, int of, int kind) {
        files[file].entries.set(k, new int[] {name, of, kind});
    }

    void hold(int file, boolean is) { held[file] = is; }

    void bit(int kind, int number, boolean taken) { (kind == 0 ? blockBits : fileBits)[number] = taken; }

    void tell(int what, int value) { told[what] = value; }

    int check() {
        int sum = 0;
        for (int pass = 1; pass <= 5; pass++) {
            int[] before = numbers();
            switch (pass) {
                case 1 -> records();
                case 2 -> folders();
                case 3 -> hanging();
                case 4 -> links();
                default -> bits();
            }
            sum += Arrays.equals(before, numbers()) ? 0 : 1 << (pass - 1);
        }
        return sum;
    }

    private static boolean right(int[] run) {
        long piece = run[0], length = run[1], block = run[2];
        return length >= 1 && piece >= 0 && piece + length - 1 <= 63 && block >= 9 && block + length - 1 <= 200;
    }

    private void records() {
        File root = files[1];
        if (root.kind != 2) {
            int links = root.links, behind = root.behind, parent = root.parent;
            root.wipe();
            root.kind = 2;
            root.links = links;
            root.behind = behind;
            root.parent = parent;
        }
        Set<Integer> used = new HashSet<>();
        for (int f = 1; f <= 24; f++) {
            File file = files[f];
            if (!List.of(1, 2, 3).contains(file.kind)) {
                file.wipe();
                continue;
            }
            if (file.size < 0 || file.size > 65536) {
                file.size = file.runs.stream().filter(Model::right).mapToInt(r -> 1024 * (r[0] + r[1])).max().orElse(0);
            }
            file.runs = stayingRuns(file, used);
            if (file.kind != 2) {
                file.entries = padded(new ArrayList<>(), 8);
            }
        }
    }

    private static List<int[]> stayingRuns(File file, Set<Integer> used) {
        List<int[]> stay = new ArrayList<>();
        for (int[] old : file.runs) {
            if (!right(old)) {
                continue;
            }
            int[] run = old.clone();
            while (run[1] > 0 && (run[0] + run[1] - 1) * 1024 >= file.size) {
                run[1]--;
            }
            boolean stays = run[1] > 0;
            if (!stay.isEmpty()) {
                int[] last = stay.get(stay.size() - 1);
                stays &= run[0] >= last[0] + last[1];
            }
            for (int b = run[2]; b < run[2] + run[1]; b++) {
                stays &= !used.contains(b);
            }
            if (stays) {
                stay.add(run);
                for (int b = run[2]; b < run[2] + run[1]; b++) {
                    used.add(b);
                }
            }
        }
        return padded(stay, 6);
    }

    private void folders() {
        Set<Integer> foldersSeen = new HashSet<>();
        for (int f = 1; f <= 24; f++) {
            if (files[f].kind != 2) {
                continue;
            }
            Set<Integer> names = new HashSet<>();
            List<int[]> stay = new ArrayList<>();
            for (int[] e : files[f].entries) {
                if (e[0] < 1 || e[0] > 255 || names.contains(e[0]) || e[1] < 2 || e[1] > 24) {
                    continue;
                }
                int kind = files[e[1]].kind;
                if (kind == 0 || kind == 2 && foldersSeen.contains(e[1])) {
                    continue;
                }
                if (kind == 2) {
                    foldersSeen.add(e[1]);
                }
                names.add(e[0]);
                stay.add(new int[] {e[0], e[1], kind});
            }
            files[f].entries = padded(stay, 8);
        }
    }

    private Set<Integer> reached() {
        Set<Integer> seen = new HashSet<>(Set.of(1));
        for (boolean more = true; more; ) {
            more = false;
            for (int f : List.copyOf(seen)) {
                for (int[] e : files[f].entries) {
                    if (files[f].kind == 2 && e[0] != 0) {
                        more |= seen.add(e[1]);
                    }
                }
            }
        }
        return seen;
    }

    private int entriesFor(int file) {
        int count = 0;
        for (int f = 1; f <= 24; f++) {
            count += (int) files[f].entries.stream().filter(e -> e[0] != 0 && e[1] == file).count();
        }
        return count;
    }

    private List<Integer> list() {
        List<Integer> list = new ArrayList<>();
        for (int f = told[2]; f >= 1 && f <= 24 && !list.contains(f); f = files[f].behind) {
            list.add(f);
        }
        return list;
    }

    private void hanging() {
        List<Integer> rightly = new ArrayList<>();
        for (int f : list()) {
            if (files[f].kind != 2 && files[f].kind != 0 && files[f].links == 0 && entriesFor(f) == 0) {
                rightly.add(f);
            }
        }
        waitOn = new ArrayList<>();
        for (int f = 1; f <= 24; f++) {
            if (files[f].kind == 0 || reached().contains(f)) {
                continue;
            }
            if (rightly.contains(f)) {
                if (held[f]) {
                    waitOn.add(f);
                } else {
                    files[f].wipe();
                }
                continue;
            }
            hangInRoot(f);
        }
        waitOn.sort((a, b) -> rightly.indexOf(a) - rightly.indexOf(b));
    }

    private void hangInRoot(int f) {
        for (int g = 1; g <= 24; g++) {
            files[g].entries.removeIf(e -> e[1] == f);
            padded(files[g].entries, 8);
        }
        List<int[]> inRoot = new ArrayList<>(files[1].entries);
        inRoot.removeIf(e -> e[0] == 0);
        if (inRoot.size() == 8) {
            files[f].wipe();
            return;
        }
        Set<Integer> names = new HashSet<>();
        inRoot.forEach(e -> names.add(e[0]));
        int name = 1;
        while (names.contains(name)) {
            name++;
        }
        inRoot.add(new int[] {name, f, files[f].kind});
        files[1].entries = padded(inRoot, 8);
    }

    private void links() {
        for (int f = 1; f <= 24; f++) {
            File file = files[f];
            file.links = entriesFor(f);
            file.parent = f == 1 ? 1 : 0;
            file.behind = 0;
            if (file.kind == 2) {
                file.links = 2 + (int) file.entries.stream().filter(e -> files[e[1]].kind == 2).count();
                for (int g = 1; g <= 24; g++) {
                    for (int[] e : files[g].entries) {
                        file.parent = e[1] == f ? g : file.parent;
                    }
                }
            }
        }
        told[2] = waitOn.isEmpty() ? 0 : waitOn.get(0);
        for (int i = 0; i + 1 < waitOn.size(); i++) {
            files[waitOn.get(i)].behind = waitOn.get(i + 1);
        }
    }

    private void bits() {
        Set<Integer> used = new HashSet<>();
        told[1] = 0;
        for (int f = 1; f <= 24; f++) {
            for (int[] run : files[f].runs) {
                for (int b = run[2]; b < run[2] + run[1]; b++) {
                    used.add(b);
                }
            }
            fileBits[f] = files[f].kind != 0;
            told[1] += fileBits[f] ? 0 : 1;
        }
        told[0] = 0;
        for (int b = 1; b <= 200; b++) {
            blockBits[b] = b <= 8 || used.contains(b);
            told[0] += blockBits[b] ? 0 : 1;
        }
    }

    int find(long path) {
        return find(1, path, 8);
    }

    private int find(int file, long path, int left) {
        int name = (int) (path & 255);
        if (left == 0 || name == 0) {
            return file;
        }
        if (files[file].kind != 2) {
            return 0;
        }
        for (int[] e : files[file].entries) {
            if (e[0] == name) {
                return e[1] >= 1 && e[1] <= 24 ? find(e[1], path >>> 8, left - 1) : 0;
            }
        }
        return 0;
    }

    /** All numbers, in the order of Volume.numbers(). */
    int[] numbers() {
        List<Integer> all = new ArrayList<>();
        for (int f = 1; f <= 24; f++) {
            File file = files[f];
            all.addAll(List.of(file.kind, file.size, file.links, file.behind, file.parent));
            for (int[] run : file.runs) {
                all.addAll(List.of(run[0], run[1], run[2]));
            }
            for (int[] e : file.entries) {
                all.addAll(List.of(e[0], e[1], e[2]));
            }
        }
        for (int b = 1; b <= 200; b++) {
            all.add(blockBits[b] ? 1 : 0);
        }
        for (int f = 1; f <= 24; f++) {
            all.add(fileBits[f] ? 1 : 0);
        }
        for (int t : told) {
            all.add(t);
        }
        return all.stream().mapToInt(Integer::intValue).toArray();
    }
}
