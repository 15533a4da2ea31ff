/** Pass 4 of promise 9, a test for each of its sentences. */
public final class LinkPassTest {
    private static final int[] ANY = {0, 1, 2, 3, 5, 77, -1, Integer.MAX_VALUE, Integer.MIN_VALUE};

    public static void main(String[] args) {
        Due due = new Due();
        linksOfFiles(due);
        linksOfFolders(due);
        linksOfTheRoot(due);
        parentsOfFolders(due);
        parentOfTheRoot(due);
        parentsOfOthers(due);
        orderOfTheList(due);
        theLastOne(due);
        behindOfOthers(due);
        theFirstOne(due);
        nothingWaits(due);
        otherNumbers(due);
        due.end("LinkPassTest");
    }

    /** The root with folder 2 and file 5 twice; in folder 2 folders 3 and 4 and file 5; in folder 4 link 6. */
    private static Volume tree() {
        return new Volume().kinds(2, 2, 3, 4).set(5, 0, 1).set(6, 0, 3)
            .entry(1, 0, 1, 2, 2).entry(1, 1, 2, 5, 1).entry(1, 2, 3, 5, 1)
            .entry(2, 0, 1, 3, 2).entry(2, 1, 2, 4, 2).entry(2, 2, 3, 5, 1).entry(4, 0, 1, 6, 3);
    }

    /** The tree, in whose records 1 to 6 a number has any value, checked. */
    private static ImageChecker checkedTree(int what, int value) {
        Volume v = tree();
        for (int file = 1; file <= 6; file++) {
            v.set(file, what, value);
        }
        return v.check().made();
    }

    private static void linksOfFiles(Due due) {
        due.sentence("pass 4", "Links become how many entries lead to a file");
        for (int value : ANY) {
            ImageChecker x = checkedTree(2, value);
            due.same("three entries, links " + value, x.about(5, 2), 3);
            due.same("one entry, links " + value, x.about(6, 2), 1);
            due.same("links of a file of kind 0", x.about(7, 2), 0);
            due.same("again: check()", x.check(), 0);
        }
        due.same("none, for one that waits", new Volume().set(5, 0, 1).hold(5, true).tell(2, 5).check().made().about(5, 2), 0);
        Volume most = new Volume().set(24, 0, 1);
        for (int folder = 1; folder <= 23; folder++) {
            most.set(folder, 0, 2);
            for (int k = 0; k < 8; k++) {
                boolean toNext = k == 0 && folder < 23;
                most.entry(folder, k, k + 1, toNext ? folder + 1 : 24, toNext ? 2 : 1);
            }
        }
        due.same("all entries that there are but 22", most.check().made().about(24, 2), 23 * 8 - 22);
    }

    private static void linksOfFolders(Due due) {
        due.sentence("pass 4", "for folders 2 and how many folders are in entries of it");
        for (int value : ANY) {
            ImageChecker x = checkedTree(2, value);
            due.same("two folders in it, and a file, links " + value, x.about(2, 2), 4);
            due.same("no entry in it, links " + value, x.about(3, 2), 2);
            due.same("no folder in it, links " + value, x.about(4, 2), 2);
        }
        Volume eight = Volume.hung(2, 0).set(2, 0, 2);
        for (int k = 0; k < 8; k++) {
            eight.set(17 + k, 0, 2).entry(2, k, 200 + k, 17 + k, 2);
        }
        due.same("eight folders in it", eight.check().made().about(2, 2), 10);
    }

    private static void linksOfTheRoot(Due due) {
        due.sentence("pass 4", "(the root, too)");
        for (int value : ANY) {
            ImageChecker x = new Volume().set(1, 2, value).made();
            due.same("no folder in it, links " + value + ": check()", x.check(), value == 2 ? 0 : 8);
            due.same("no folder in it, links " + value, x.about(1, 2), 2);
            due.same("one folder in it, links " + value, checkedTree(2, value).about(1, 2), 3);
        }
        Volume eight = new Volume();
        for (int k = 0; k < 8; k++) {
            eight.set(17 + k, 0, 2).entry(1, k, 200 + k, 17 + k, 2);
        }
        due.same("eight folders in it", eight.check().made().about(1, 2), 10);
    }

    private static void parentsOfFolders(Due due) {
        due.sentence("pass 4", "Parent becomes the folder in which a folder's entry is");
        for (int value : ANY) {
            ImageChecker x = checkedTree(4, value);
            due.same("in the root, parent " + value, x.about(2, 4), 1);
            due.same("in folder 2, parent " + value, x.about(3, 4), 2);
            due.same("in folder 2 as the second, parent " + value, x.about(4, 4), 2);
            due.same("again: check()", x.check(), 0);
        }
        ImageChecker x = new Volume().kinds(2, 2, 24).entry(1, 0, 1, 24, 2).entry(24, 7, 1, 2, 2).check().made();
        due.same("in file 24", x.about(2, 4), 24);
        due.same("file 24 itself", x.about(24, 4), 1);
        Volume eight = new Volume();
        for (int k = 0; k < 8; k++) {
            eight.set(2 + k, 0, 2).entry(1, k, 100 - k, 2 + k, 2).set(17 + k, 0, 2).entry(5, k, 50 + k, 17 + k, 2);
        }
        ImageChecker y = eight.check().made();
        for (int k = 0; k < 8; k++) {
            due.same("entry " + k + " of the root", y.about(2 + k, 4), 1);
            due.same("entry " + k + " of folder 5", y.about(17 + k, 4), 5);
        }
        due.same("one that pass 3 hung up", new Volume().set(9, 0, 2).set(9, 4, 5).check().made().about(9, 4), 1);
    }

    private static void parentOfTheRoot(Due due) {
        due.sentence("pass 4", "for the root 1");
        for (int value : ANY) {
            ImageChecker x = new Volume().set(1, 4, value).made();
            due.same("parent " + value + ": check()", x.check(), value == 1 ? 0 : 8);
            due.same("parent " + value, x.about(1, 4), 1);
            due.same("parent " + value + " in a tree", checkedTree(4, value).about(1, 4), 1);
        }
    }

    private static void parentsOfOthers(Due due) {
        due.sentence("pass 4", "for the root 1, for all others 0.");
        for (int value : ANY) {
            ImageChecker x = checkedTree(4, value);
            due.same("a plain file, parent " + value, x.about(5, 4), 0);
            due.same("a link, parent " + value, x.about(6, 4), 0);
            ImageChecker y = new Volume().set(5, 0, 1).set(5, 4, value).hold(5, true).tell(2, 5).check().made();
            due.same("one that waits, parent " + value, y.about(5, 4), 0);
        }
    }

    private static void orderOfTheList(Due due) {
        due.sentence("pass 4", "Of the files that wait on, in the order of the list, behind becomes the next one of them");
        ImageChecker x = new Volume().kinds(1, 3, 9, 20, 24).kinds(3, 2, 8).tell(2, 9).set(9, 3, 24).set(24, 3, 2)
            .set(2, 3, 20).set(20, 3, 8).set(8, 3, 3).hold(9, true).hold(2, true).hold(20, true).hold(3, true).check().made();
        due.same("the first one", x.told(2), 9);
        due.same("behind 9 comes 2, for 24 is not held", x.about(9, 3), 2);
        due.same("behind 2 comes 20", x.about(2, 3), 20);
        due.same("behind 20 comes 3, for 8 is not held", x.about(20, 3), 3);
        due.same("3 is the last one", x.about(3, 3), 0);
        due.same("again: check()", x.check(), 0);
        ImageChecker y = tree().kinds(1, 9, 8).hold(9, true).hold(8, true).tell(2, 9).set(9, 3, 5).set(5, 3, 8).check().made();
        due.same("one between them hangs in folders", y.about(9, 3), 8);
    }

    private static void theLastOne(Due due) {
        due.sentence("pass 4", "(0 for the last)");
        for (int value : ANY) {
            ImageChecker x = new Volume().set(4, 0, 1).hold(4, true).tell(2, 4).set(4, 3, value).check().made();
            due.same("the only one, behind " + value, x.about(4, 3), 0);
            ImageChecker y = new Volume().kinds(1, 9, 4).hold(4, true).hold(9, true).tell(2, 9).set(9, 3, 4).set(4, 3, value)
                .check().made();
            due.same("the last of two, behind " + value, y.about(4, 3), 0);
        }
    }

    private static void behindOfOthers(Due due) {
        due.sentence("pass 4", "(0 for the last), of all others 0");
        for (int value : ANY) {
            ImageChecker x = checkedTree(3, value);
            for (int file = 1; file <= 7; file++) {
                due.same("file " + file + ", behind " + value, x.about(file, 3), 0);
            }
            due.same("nothing waits", x.told(2), 0);
        }
        ImageChecker y = tree().kinds(1, 9, 8).hold(9, true).hold(8, true).tell(2, 1).set(1, 3, 9).set(9, 3, 5).set(5, 3, 8)
            .set(8, 3, 2).check().made();
        due.same("the root, that came in the list", y.about(1, 3), 0);
        due.same("a plain file that came in the list", y.about(5, 3), 0);
        due.same("the last one", y.about(8, 3), 0);
    }

    private static void theFirstOne(Due due) {
        due.sentence("pass 4", "the first one that waits becomes the first of them");
        for (int first : new int[] {2, 24}) {
            Volume v = new Volume().set(first, 0, 1).hold(first, true).tell(2, first);
            due.same("it was told: check()", v.checked(), 16);
            due.same("it was told", v.made().told(2), first);
        }
        for (int other : new int[] {1, 2, 5, 6, 7}) {
            ImageChecker x = tree().kinds(1, 7, 9).hold(9, true).tell(2, other).set(other, 3, 9).check().made();
            due.same("file " + other + " was told", x.told(2), 9);
        }
    }

    private static void nothingWaits(Due due) {
        due.sentence("pass 4", "(0 without)");
        for (int value : ANY) {
            due.same("told " + value, tree().tell(2, value).check().made().told(2), 0);
            due.same("told " + value + " without files", new Volume().tell(2, value).check().made().told(2), 0);
        }
        due.same("the only one goes", new Volume().set(5, 0, 1).tell(2, 5).check().made().told(2), 0);
        due.same("the only one is a folder", new Volume().set(5, 0, 2).hold(5, true).tell(2, 5).check().made().told(2), 0);
    }

    private static void otherNumbers(Due due) {
        due.sentence("pass 4", "LINKS.");
        int[] links = {0, 3, 4, 2, 2, 3, 1};
        int[] parents = {0, 1, 1, 2, 2, 0, 0};
        for (int size = 2; size <= 4; size++) {
            ImageChecker x = checkedTree(1, size);
            for (int file = 1; file <= 6; file++) {
                due.same("links of " + file + ", whatever the sizes", x.about(file, 2), links[file]);
                due.same("parent of " + file + ", whatever the sizes", x.about(file, 4), parents[file]);
            }
        }
    }
}
