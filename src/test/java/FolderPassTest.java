/** Pass 2 of promise 9, a test for each of its sentences. */
public final class FolderPassTest {
    private static final int MAX = Integer.MAX_VALUE;
    private static final int MIN = Integer.MIN_VALUE;

    public static void main(String[] args) {
        Due due = new Due();
        byTheirNumbers(due);
        places(due);
        names(due);
        namesThatStayed(due);
        filesThatAreNone(due);
        filesOfKindZero(due);
        theRoot(due);
        foldersHere(due);
        foldersBefore(due);
        kinds(due);
        due.end("FolderPassTest");
    }

    private static int[] row(int... numbers) {
        return numbers;
    }

    private static void byTheirNumbers(Due due) {
        due.sentence("pass 2", "FOLDERS, by their numbers, the entries of each from the first one on");
        // In the tree folder 3 comes before folder 2; by numbers it is looked at behind it.
        ImageChecker x = new Volume().kinds(2, 2, 3, 4).entry(1, 0, 1, 3, 2).entry(3, 0, 1, 4, 2).entry(3, 1, 2, 2, 2)
            .entry(2, 0, 9, 4, 2).check().made();
        due.sameEntries("folder 2 keeps the entry", x, 2, row(9, 4, 2));
        due.sameEntries("folder 3 loses it", x, 3, row(2, 2, 2));
        ImageChecker root = new Volume().kinds(2, 2, 24).entry(24, 0, 5, 2, 2).entry(1, 0, 6, 24, 2).entry(1, 7, 7, 2, 2)
            .check().made();
        due.sameEntries("the root is the first", root, 1, row(6, 24, 2), row(7, 2, 2));
        due.sameEntries("file 24 is the last", root, 24);
        ImageChecker places = new Volume().kinds(1, 2, 3).entry(1, 6, 5, 3, 1).entry(1, 1, 5, 2, 1).check().made();
        due.sameEntries("the first place counts, not the first call", places, 1, row(5, 2, 1), row(1, 3, 1));
    }

    private static void places(Due due) {
        due.sentence("pass 2", "those that stay one behind the other, all behind them 0");
        for (int k = 0; k < 8; k++) {
            ImageChecker x = new Volume().set(2, 0, 1).entry(1, k, 9, 2, 1).check().made();
            due.sameEntries("the only one, from place " + k, x, 1, row(9, 2, 1));
        }
        Volume all = new Volume().set(2, 0, 1);
        int[][] eight = new int[8][];
        for (int k = 0; k < 8; k++) {
            eight[k] = row(80 - k, 2, 1);
            all.entry(1, k, 80 - k, 2, 1);
        }
        due.sameEntries("all eight stay", all.check().made(), 1, eight);
        Volume odd = new Volume().kinds(1, 2, 3);
        for (int k = 0; k < 8; k++) {
            odd.entry(1, k, k % 2 == 0 ? 256 : 10 + k, 2 + k / 4, 1);
        }
        due.sameEntries("from places 1, 3, 5, 7", odd.check().made(), 1, row(11, 2, 1), row(13, 2, 1), row(15, 3, 1),
            row(17, 3, 1));
        ImageChecker next = new Volume().set(2, 0, 2).entry(1, 0, 9, 2, 2).kinds(1, 3, 4).set(3, 1, 4).set(3, 2, 1)
            .entry(1, 1, 8, 3, 1).entry(1, 2, 7, 4, 1).check().made();
        due.sameEntries("the numbers of the next file are no entry", next, 2);
        Volume v = Volume.hung(2, 0).set(2, 0, 2).check();
        Volume behind = Volume.hung(2, 0).set(2, 0, 2).check().entry(2, 6, 0, 5, 9).entry(1, 7, 0, 0, 1);
        due.same("numbers in places without a name: check()", behind.checked(), 2);
        due.sameTables("numbers in places without a name", behind, v);
    }

    private static void names(Due due) {
        due.sentence("pass 2", "one goes, if its name is not 1 .. 255");
        for (int name : new int[] {1, 2, 127, 128, 254, 255}) {
            ImageChecker x = new Volume().set(2, 0, 1).entry(1, 0, name, 2, 1).made();
            due.same("name " + name + ": check()", x.check(), 8 + 16);
            due.sameEntries("name " + name, x, 1, row(name, 2, 1));
        }
        for (int name : new int[] {0, -1, -255, 256, 257, 511, MAX, MIN}) {
            ImageChecker x = new Volume().set(2, 0, 1).entry(1, 0, name, 2, 1).entry(1, 1, 9, 2, 1).made();
            due.same("name " + name + ": check()", x.check(), 2 + 8 + 16);
            due.sameEntries("name " + name + " goes", x, 1, row(9, 2, 1));
        }
    }

    private static void namesThatStayed(Due due) {
        due.sentence("pass 2", "or is that of one that stayed in this folder");
        ImageChecker x = new Volume().kinds(1, 2, 3).set(4, 0, 2)
            .entry(1, 0, 5, 2, 1).entry(1, 1, 5, 3, 1).entry(1, 2, 6, 3, 1).entry(1, 3, 5, 2, 1).entry(1, 4, 7, 4, 2)
            .entry(1, 7, 6, 2, 1).entry(4, 0, 5, 3, 1).check().made();
        due.sameEntries("the first one with a name stays", x, 1, row(5, 2, 1), row(6, 3, 1), row(7, 4, 2));
        due.sameEntries("one with the same name in another folder stays", x, 4, row(5, 3, 1));
        Volume eight = new Volume().set(2, 0, 1);
        for (int k = 0; k < 8; k++) {
            eight.entry(1, k, 255, 2, 1);
        }
        due.sameEntries("eight times one name", eight.check().made(), 1, row(255, 2, 1));
        for (int of : new int[] {9, 1, 25, 0}) {
            ImageChecker y = new Volume().set(2, 0, 1).entry(1, 0, 5, of, 1).entry(1, 1, 5, 2, 1).check().made();
            due.sameEntries("the name of one that went is free", y, 1, row(5, 2, 1));
        }
    }

    private static void filesThatAreNone(Due due) {
        due.sentence("pass 2", "if its file is not 1 .. 24");
        for (int of : new int[] {0, -1, -24, 25, 256 + 2, MAX, MIN}) {
            Volume v = new Volume().entry(1, 0, 5, of, 2);
            due.same("an entry for file " + of + ": check()", v.checked(), 2);
            due.sameTables("an entry for file " + of, v, new Volume());
            ImageChecker x = Volume.hung(2, 0).set(2, 0, 2).entry(2, 3, 5, of, 1).check().made();
            due.sameEntries("an entry for file " + of + " in folder 2", x, 2);
        }
        ImageChecker x = new Volume().set(24, 0, 3).set(2, 0, 1).entry(1, 3, 5, 24, 3).entry(1, 4, 6, 2, 1).check().made();
        due.sameEntries("entries for files 24 and 2 stay", x, 1, row(5, 24, 3), row(6, 2, 1));
    }

    private static void filesOfKindZero(Due due) {
        due.sentence("pass 2", "if its file is not 1 .. 24, or of kind 0");
        for (int of : new int[] {2, 24}) {
            for (int kind = 0; kind <= 3; kind++) {
                Volume v = new Volume().entry(1, 0, 5, of, kind);
                due.same("kind " + kind + " told for a file of kind 0: check()", v.checked(), 2);
                due.sameTables("kind " + kind + " told for a file of kind 0", v, new Volume());
            }
            for (int kind : new int[] {4, -1, MAX}) {
                Volume v = new Volume().set(of, 0, kind).entry(1, 0, 5, of, 1);
                due.same("a file that pass 1 took: check()", v.checked(), 1 + 2);
                due.sameTables("a file that pass 1 took", v, new Volume());
            }
        }
    }

    private static void theRoot(Due due) {
        due.sentence("pass 2", "if its file is not 1 .. 24, or of kind 0, or the root");
        Volume v = new Volume().entry(1, 0, 5, 1, 2);
        due.same("the root in itself: check()", v.checked(), 2);
        due.sameTables("the root in itself", v, new Volume());
        for (int folder : new int[] {2, 24}) {
            ImageChecker x = Volume.hung(folder, 0).set(folder, 0, 2).entry(folder, 0, 5, 1, 2).check().made();
            due.sameEntries("the root in folder " + folder, x, folder);
            due.same("the root's parent", x.about(1, 4), 1);
        }
    }

    private static void foldersHere(Due due) {
        due.sentence("pass 2", "or if its file is a folder, and an entry for it stayed (here,");
        ImageChecker x = new Volume().kinds(2, 2, 3).set(4, 0, 1).set(5, 0, 3)
            .entry(1, 0, 1, 3, 2).entry(1, 1, 2, 3, 2).entry(1, 2, 3, 4, 1).entry(1, 3, 4, 4, 1)
            .entry(1, 4, 5, 2, 2).entry(1, 5, 6, 5, 3).entry(1, 6, 7, 5, 3).entry(1, 7, 8, 3, 2).check().made();
        due.sameEntries("folders once, plain files and links as often as they are there", x, 1, row(1, 3, 2), row(3, 4, 1),
            row(4, 4, 1), row(5, 2, 2), row(6, 5, 3), row(7, 5, 3));
        ImageChecker y = new Volume().set(2, 0, 2).entry(1, 0, 256, 2, 2).entry(1, 1, 5, 2, 2).check().made();
        due.sameEntries("an entry that went is none", y, 1, row(5, 2, 2));
        ImageChecker told = new Volume().set(2, 0, 2).entry(1, 0, 3, 2, 1).entry(1, 1, 5, 2, 1).check().made();
        due.sameEntries("by the kind of the file, not of the entry", told, 1, row(3, 2, 2));
        ImageChecker plain = new Volume().set(2, 0, 1).entry(1, 0, 3, 2, 2).entry(1, 1, 5, 2, 2).check().made();
        due.sameEntries("a plain file that entries tell a folder", plain, 1, row(3, 2, 1), row(5, 2, 1));
    }

    private static void foldersBefore(Due due) {
        due.sentence("pass 2", "(here, or in a folder before)");
        ImageChecker x = new Volume().kinds(2, 2, 3).set(4, 0, 1).entry(1, 0, 1, 3, 2).entry(1, 1, 2, 2, 2)
            .entry(2, 0, 1, 3, 2).entry(2, 1, 2, 4, 1).entry(3, 0, 1, 2, 2).entry(3, 1, 2, 4, 1).check().made();
        due.sameEntries("in folder 2 the plain file stays", x, 2, row(2, 4, 1));
        due.sameEntries("in folder 3, too", x, 3, row(2, 4, 1));
        ImageChecker itself = new Volume().kinds(2, 2, 3).entry(1, 0, 1, 2, 2).entry(2, 0, 9, 3, 2).entry(3, 0, 9, 3, 2)
            .check().made();
        due.sameEntries("the folder before keeps it", itself, 2, row(9, 3, 2));
        due.sameEntries("the folder itself loses it", itself, 3);
        ImageChecker first = new Volume().kinds(2, 2, 3).entry(1, 0, 9, 3, 2).entry(2, 0, 8, 2, 2).entry(3, 0, 7, 2, 2)
            .check().made();
        due.sameEntries("an entry in itself is one before, too", first, 3);
        ImageChecker wrong = new Volume().kinds(2, 2, 3).entry(1, 0, 1, 3, 2).entry(1, 1, 1, 2, 2).entry(3, 0, 7, 2, 2)
            .check().made();
        due.sameEntries("an entry that went in a folder before is none", wrong, 3, row(7, 2, 2));
        ImageChecker no = new Volume().set(2, 0, 1).kinds(2, 3, 4).entry(1, 0, 1, 4, 2).entry(1, 1, 2, 2, 1)
            .entry(2, 0, 5, 3, 2).entry(4, 0, 7, 3, 2).check().made();
        due.sameEntries("an entry in a file that is no folder is none", no, 4, row(7, 3, 2));
        Volume again = Volume.hung(2, 0).set(2, 0, 2).check();
        due.same("entries of an earlier check don't count: check()", again.checked(), 0);
    }

    private static void kinds(Due due) {
        due.sentence("pass 2", "The kind of one that stays becomes that of its file.");
        for (int kind = 1; kind <= 3; kind++) {
            for (int told : new int[] {0, 1, 2, 3, 4, -7, MAX, MIN}) {
                ImageChecker x = new Volume().set(2, 0, kind).entry(1, 0, 5, 2, told).made();
                due.same("kind " + told + " for " + kind + ": check()", x.check(), (told == kind ? 0 : 2) + 8 + 16);
                due.sameEntries("kind " + told + " for " + kind, x, 1, row(5, 2, kind));
            }
        }
    }
}
