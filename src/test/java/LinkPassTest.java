/** Pass 4 of promise 9: links, parents, and who waits behind whom. */
public final class LinkPassTest {
    public static void main(String[] args) {
        Due due = new Due();
        links(due);
        parents(due);
        sizesAreNoEntries(due);
        waiting(due);
        due.end("LinkPassTest");
    }

    private static Volume tree() {
        return new Volume().set(2, 0, 2).set(3, 0, 2).set(4, 0, 2).set(5, 0, 1).set(6, 0, 3)
            .entry(1, 0, 1, 2, 2).entry(1, 1, 2, 5, 1).entry(1, 2, 3, 5, 1)
            .entry(2, 0, 1, 3, 2).entry(2, 1, 2, 4, 2).entry(2, 2, 3, 5, 1).entry(4, 0, 1, 6, 3);
    }

    private static void links(Due due) {
        int[] wrong = {0, 1, 77, -1, Integer.MAX_VALUE, Integer.MIN_VALUE};
        int[] want = {0, 3, 4, 2, 2, 3, 1};
        for (int value : wrong) {
            Volume v = tree();
            for (int file = 1; file <= 6; file++) {
                v.set(file, 2, value);
            }
            ImageChecker x = v.made();
            due.same("links " + value + ": check()", x.check(), 8 + 16);
            for (int file = 1; file <= 6; file++) {
                due.same("links of " + file, x.about(file, 2), want[file]);
            }
        }
    }

    private static void parents(Due due) {
        int[] want = {0, 1, 1, 2, 2, 0, 0};
        for (int value : new int[] {0, 1, 2, 5, -1, Integer.MAX_VALUE}) {
            Volume v = tree();
            for (int file = 1; file <= 6; file++) {
                v.set(file, 4, value);
            }
            ImageChecker x = v.check().made();
            for (int file = 1; file <= 6; file++) {
                due.same("parent of " + file, x.about(file, 4), want[file]);
            }
            due.same("parents again: check()", x.check(), 0);
        }
    }

    private static void sizesAreNoEntries(Due due) {
        int[] links = {0, 3, 4, 2, 2, 3, 1};
        int[] parents = {0, 1, 1, 2, 2, 0, 0};
        for (int folder = 2; folder <= 4; folder++) {
            Volume v = tree();
            for (int file = 1; file <= 6; file++) {
                v.set(file, 1, folder);
            }
            ImageChecker x = v.check().made();
            for (int file = 1; file <= 6; file++) {
                due.same("links of " + file + " with sizes " + folder, x.about(file, 2), links[file]);
                due.same("parent of " + file + " with sizes " + folder, x.about(file, 4), parents[file]);
            }
        }
    }

    private static void waiting(Due due) {
        ImageChecker x = tree().set(2, 3, 5).set(5, 3, 6).set(6, 3, -4).set(1, 3, 9).made();
        due.same("behind of files that wait not: check()", x.check(), 8 + 16);
        for (int file = 1; file <= 6; file++) {
            due.same("behind of " + file, x.about(file, 3), 0);
        }
        ImageChecker y = tree().set(9, 0, 1).set(8, 0, 1).hold(9, true).hold(8, true).tell(2, 9).set(9, 3, 5).set(5, 3, 8)
            .check().made();
        due.same("the first one", y.told(2), 9);
        due.same("the next one", y.about(9, 3), 8);
        due.same("one between them that hangs", y.about(5, 3), 0);
        due.same("links of those that wait", y.about(9, 2) + y.about(8, 2), 0);
        due.same("parent of one that waits", y.about(9, 4), 0);
        due.same("again: check()", y.check(), 0);
    }
}
