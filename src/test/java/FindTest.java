/** Promise 15: paths, in tables that are checked and in such that are not. */
public final class FindTest {
    public static void main(String[] args) {
        Due due = new Due();
        plainPaths(due);
        eightNames(due);
        uncheckedTables(due);
        rootOfAnotherKind(due);
        due.end("FindTest");
    }

    private static long path(int... names) {
        long path = 0;
        for (int i = names.length - 1; i >= 0; i--) {
            path = path << 8 | names[i];
        }
        return path;
    }

    private static void plainPaths(Due due) {
        ImageChecker x = new Volume().set(2, 0, 2).set(3, 0, 1).set(4, 0, 3)
            .entry(1, 0, 255, 2, 2).entry(1, 7, 1, 3, 1).entry(2, 3, 1, 4, 3).made();
        due.same("the root", x.find(0), 1);
        due.same("a name", x.find(path(255)), 2);
        due.same("the last entry", x.find(path(1)), 3);
        due.same("two names", x.find(path(255, 1)), 4);
        due.same("the names in another order", x.find(path(1, 255)), 0);
        due.same("a name that is not there", x.find(path(2)), 0);
        due.same("a second name that is not there", x.find(path(255, 2)), 0);
        due.same("behind a plain file", x.find(path(1, 1)), 0);
        due.same("behind a link", x.find(path(255, 1, 1)), 0);
        due.same("a first byte of 0 ends the path", x.find(path(0, 255)), 1);
        due.same("what is behind a byte of 0 is not read", x.find(path(255, 0, 9)), 2);
    }

    private static void eightNames(Due due) {
        Volume v = new Volume();
        for (int file = 2; file <= 10; file++) {
            v.set(file, 0, 2).entry(file - 1, 0, 190 + file, file, 2);
        }
        ImageChecker x = v.made();
        due.same("seven names", x.find(path(192, 193, 194, 195, 196, 197, 198)), 8);
        due.same("eight names, the highest byte above 127", x.find(path(192, 193, 194, 195, 196, 197, 198, 199)), 9);
        due.same("the eighth is not there", x.find(path(192, 193, 194, 195, 196, 197, 198, 200)), 0);
        Volume ring = new Volume().entry(1, 0, 255, 1, 2);
        due.same("all eight bytes 255, in a ring", ring.made().find(-1L), 1);
    }

    private static void uncheckedTables(Due due) {
        ImageChecker x = new Volume().set(2, 0, 2).entry(2, 0, 6, 3, 1)
            .entry(1, 0, 5, 2, 1).entry(1, 1, 7, 25, 2).entry(1, 2, 8, 0, 2).entry(1, 3, 9, -1, 2)
            .entry(1, 4, 5, 3, 2).entry(1, 5, 261, 3, 1).entry(1, 6, 10, 24, 2).entry(1, 7, 0, 2, 2).made();
        due.same("of two entries with one name the first", x.find(path(5)), 2);
        due.same("the entry's kind does not count, the record's does", x.find(path(5, 6)), 3);
        due.same("file 25", x.find(path(7)), 0);
        due.same("file 0", x.find(path(8)), 0);
        due.same("file -1", x.find(path(9)), 0);
        due.same("a last one of kind 0", x.find(path(10)), 24);
        due.same("behind one of kind 0", x.find(path(10, 6)), 0);
        due.same("a name is a whole number, not its lowest byte", x.find(path(5, 5)), 0);
        ImageChecker y = new Volume().set(2, 0, 1).entry(1, 0, 4, 77, 1).entry(1, 1, 4, 2, 1).made();
        due.same("the first one leads nowhere", y.find(path(4)), 0);
        y.check();
        due.same("behind check() the second one is left", y.find(path(4)), 2);
        ImageChecker z = new Volume().set(2, 0, 258).entry(1, 0, 4, 2, 2).entry(2, 0, 4, 3, 1).entry(1, 1, 261, 3, 1).made();
        due.same("a kind of 258 is no folder", z.find(path(4, 4)), 0);
        due.same("a name of 261 is not 5", z.find(path(5)), 0);
    }

    /** Entries matter in folders, by the kind in the record. */
    private static void rootOfAnotherKind(Due due) {
        ImageChecker x = new Volume().set(1, 0, 1).set(2, 0, 1).entry(1, 0, 4, 2, 1).made();
        due.same("the root itself", x.find(0), 1);
        due.same("a name in a root that is no folder", x.find(path(4)), 0);
    }
}
