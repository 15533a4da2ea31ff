/** Promise 15, a test for each part of its sentence. */
public final class FindTest {
    private static final int MAX = Integer.MAX_VALUE;
    private static final int MIN = Integer.MIN_VALUE;

    public static void main(String[] args) {
        Due due = new Due();
        pathZero(due);
        bytesInOrder(due);
        greatNames(due);
        byteOfZero(due);
        allEight(due);
        notThere(due);
        noFile(due);
        noFolder(due);
        noFolderAsTheLast(due);
        rootThatIsNoFolder(due);
        asTheyAre(due);
        kindsInRecords(due);
        theFirstOfOneName(due);
        rings(due);
        due.end("FindTest");
    }

    private static long path(int... names) {
        long path = 0;
        for (int i = names.length - 1; i >= 0; i--) {
            path = path << 8 | names[i];
        }
        return path;
    }

    /** In the root folder 2 (255) and file 3 (1), in the last place; in folder 2 link 4 (1) and folder 5 (9). */
    private static Volume tree() {
        return new Volume().kinds(2, 2, 5).set(3, 0, 1).set(4, 0, 3).entry(1, 0, 255, 2, 2).entry(1, 7, 1, 3, 1)
            .entry(2, 3, 1, 4, 3).entry(2, 0, 9, 5, 2).entry(5, 7, 9, 24, 1);
    }

    private static void pathZero(Due due) {
        due.sentence("promise 15", "of path 0 it is the root");
        due.same("in whole tables", new ImageChecker().find(0), 1);
        due.same("in a tree", tree().made().find(0), 1);
        due.same("with an entry without a name", new Volume().entry(1, 0, 0, 2, 1).made().find(0), 1);
        for (int kind : new int[] {0, 1, 3, 4, -1, MAX, MIN}) {
            due.same("a root of kind " + kind, new Volume().set(1, 0, kind).made().find(0), 1);
        }
    }

    private static void bytesInOrder(Due due) {
        due.sentence("promise 15", "the lowest byte of path is the first name (1 .. 255), the next one the second, and so on");
        ImageChecker x = tree().made();
        due.same("one name", x.find(path(255)), 2);
        due.same("one name, of the last entry", x.find(path(1)), 3);
        due.same("two names", x.find(0x01ffL), 4);
        due.same("two names in the other order", x.find(0xff01L), 0);
        due.same("three names", x.find(0x0909ffL), 24);
    }

    private static void greatNames(Due due) {
        due.sentence("promise 15", "is the first name (1 .. 255)");
        for (int name : new int[] {1, 2, 126, 127, 128, 129, 200, 254, 255}) {
            Volume v = new Volume().set(2, 0, 2).entry(1, 0, name, 2, 2).entry(2, 0, name, 3, 1);
            due.same("name " + name, v.made().find(path(name)), 2);
            due.same("name " + name + " twice", v.made().find(path(name, name)), 3);
            due.same("name " + name + " is no other", v.made().find(path(name % 255 + 1)), 0);
        }
        for (int odd : new int[] {261, 5 - 256, 5 + (1 << 30), 5 + MIN}) {
            ImageChecker x = new Volume().set(2, 0, 1).entry(1, 0, odd, 2, 1).made();
            due.same("a name of " + odd + " is not 5", x.find(path(5)), 0);
        }
    }

    private static void byteOfZero(Due due) {
        due.sentence("promise 15", "and so on, up to a byte of 0");
        ImageChecker x = tree().entry(1, 3, 0, 3, 1).entry(2, 5, 0, 3, 1).made();
        due.same("the lowest one", x.find(path(0, 255)), 1);
        due.same("the lowest one, others of 255", x.find(-256L), 1);
        due.same("all but the highest bit", x.find(Long.MIN_VALUE), 1);
        due.same("the second one", x.find(path(255, 0, 9)), 2);
        due.same("the second one, behind a plain file", x.find(path(1, 0, 1)), 3);
        due.same("the third one", x.find(path(255, 9, 0, 9)), 5);
        due.same("the highest ones alone", x.find(path(255, 9, 9, 0, 0, 0, 0, 1)), 24);
        due.same("the highest byte is not read, the path being negative", x.find(path(255, 9, 9, 0, 0, 0, 0, 255)), 24);
        Volume chain = chain();
        due.same("the eighth one", chain.made().find(path(192, 193, 194, 195, 196, 197, 198)), 8);
    }

    /** Folders 2 to 10, each in the one before, under the names 192 to 200. */
    private static Volume chain() {
        Volume v = new Volume();
        for (int file = 2; file <= 10; file++) {
            v.set(file, 0, 2).entry(file - 1, file % 8, 190 + file, file, 2);
        }
        return v;
    }

    private static void allEight(Due due) {
        due.sentence("promise 15", "(or all eight;");
        ImageChecker x = chain().made();
        long eight = path(192, 193, 194, 195, 196, 197, 198, 199);
        due.same("eight names make a negative path", Long.signum(eight), -1);
        due.same("eight names", x.find(eight), 9);
        due.same("the eighth is not there", x.find(path(192, 193, 194, 195, 196, 197, 198, 200)), 0);
        due.same("the first is not there", x.find(path(191, 193, 194, 195, 196, 197, 198, 199)), 0);
        Volume low = new Volume();
        for (int file = 2; file <= 9; file++) {
            low.set(file, 0, 2).entry(file - 1, 0, file, file, 2);
        }
        due.same("eight names, a positive path", low.made().find(0x0908070605040302L), 9);
        for (int kind : new int[] {0, 1, 3, 4, MIN}) {
            due.same("the last of eight is of kind " + kind, low.set(9, 0, kind).made().find(0x0908070605040302L), 9);
        }
        due.same("the last of eight leads to no file", low.entry(8, 0, 9, 25, 1).made().find(0x0908070605040302L), 0);
        low.entry(8, 0, 9, 9, 2);
        due.same("the seventh of eight is a plain file", low.set(8, 0, 1).made().find(0x0908070605040302L), 0);
    }

    private static void notThere(Due due) {
        due.sentence("promise 15", "0 when one is not there");
        ImageChecker x = tree().made();
        due.same("in whole tables", new ImageChecker().find(1), 0);
        due.same("the first one", x.find(path(2)), 0);
        due.same("the first of two", x.find(path(2, 1)), 0);
        due.same("the last of two", x.find(path(255, 2)), 0);
        due.same("the second of three", x.find(path(255, 8, 9)), 0);
        due.same("a name that another folder has", x.find(path(9)), 0);
        due.same("the greatest path", x.find(Long.MAX_VALUE), 0);
        due.same("all bits", x.find(-1L), 0);
        for (int any : new int[] {1, 2, 3, 24}) {
            Volume v = new Volume().set(1, 1, any).entry(1, 0, 8, 2, 2).set(2, 0, 2);
            for (int file = 3; file <= 24; file++) {
                v.record(file, any, any, any, any, any).run(file, 0, any, any, any).run(file, 5, any, any, any);
            }
            due.same("in whatever numbers of records, " + any, v.made().find(path(9)), 0);
            due.same("in whatever numbers of records, in a folder, " + any, v.made().find(path(8, any)), 0);
        }
    }

    private static void noFile(Due due) {
        due.sentence("promise 15", "or leads to no file 1 .. 24");
        for (int of : new int[] {0, -1, 25, 256 + 2, MAX, MIN}) {
            ImageChecker x = tree().entry(1, 1, 77, of, 2).entry(5, 1, 77, of, 2).made();
            due.same("file " + of, x.find(path(77)), 0);
            due.same("file " + of + " before the last name", x.find(path(77, 1)), 0);
            due.same("file " + of + " in a folder", x.find(path(255, 9, 77)), 0);
        }
        ImageChecker x = new Volume().entry(1, 0, 5, 24, 0).entry(1, 1, 6, 1, 0).made();
        due.same("file 24", x.find(path(5)), 24);
        due.same("file 1", x.find(path(6)), 1);
    }

    private static void noFolder(Due due) {
        due.sentence("promise 15", "or is of no folder");
        for (int kind : new int[] {0, 1, 3, 4, -1, 258, MAX, MIN}) {
            ImageChecker x = new Volume().set(2, 0, kind).set(3, 0, 2).entry(1, 0, 4, 2, 2).entry(2, 0, 5, 3, 2)
                .entry(3, 0, 6, 7, 1).entry(3, 1, 4, 2, 2).entry(1, 1, 8, 3, 2).made();
            due.same("kind " + kind + ", its name before the last", x.find(path(4, 5)), 0);
            due.same("kind " + kind + ", its name as the first of three", x.find(path(4, 5, 6)), 0);
            due.same("kind " + kind + ", its name as the second of three", x.find(path(8, 4, 5)), 0);
        }
    }

    private static void noFolderAsTheLast(Due due) {
        due.sentence("promise 15", "(the tables as they are, checked or not), but the last one");
        for (int kind : new int[] {0, 1, 2, 3, 4, -1, 258, MAX, MIN}) {
            ImageChecker x = new Volume().set(2, 0, kind).entry(1, 0, 4, 2, 2).set(3, 0, 2).entry(1, 1, 8, 3, 2)
                .entry(3, 0, 4, 2, 1).made();
            due.same("kind " + kind + ", the last of one name", x.find(path(4)), 2);
            due.same("kind " + kind + ", the last of two names", x.find(path(8, 4)), 2);
        }
    }

    /** Entries matter in folders, so the root's names are of no folder, if it is none by its record. */
    private static void rootThatIsNoFolder(Due due) {
        due.sentence("Terms", "of each file 8 ENTRIES (that matter in folders)");
        for (int kind : new int[] {0, 1, 3, 4, -1, 258, MAX, MIN}) {
            ImageChecker x = tree().set(1, 0, kind).made();
            due.same("a root of kind " + kind, x.find(path(255)), 0);
            due.same("a root of kind " + kind + ", two names", x.find(path(255, 1)), 0);
        }
    }

    private static void asTheyAre(Due due) {
        due.sentence("promise 15", "(the tables as they are, checked or not)");
        ImageChecker x = new Volume().set(2, 0, 1).entry(1, 0, 4, 77, 1).entry(1, 1, 4, 2, 1).entry(1, 2, 5, 9, 1).made();
        due.same("not checked: the first one leads nowhere", x.find(path(4)), 0);
        due.same("not checked: a file of kind 0", x.find(path(5)), 9);
        x.check();
        due.same("checked: the second one is left", x.find(path(4)), 2);
        due.same("checked: the entry is gone", x.find(path(5)), 0);
        due.sameTables("find() changes nothing", tree().find(path(255, 9)).find(path(2)).find(0), tree());
    }

    private static void kindsInRecords(Due due) {
        due.sentence("promise 15", "(by kinds in records;");
        for (int told : new int[] {0, 1, 2, 3, -1, MAX}) {
            ImageChecker x = new Volume().set(2, 0, 2).set(3, 0, 1).entry(1, 0, 5, 2, told).entry(1, 1, 6, 3, told)
                .entry(2, 0, 7, 4, told).entry(3, 0, 7, 4, told).made();
            due.same("a folder that its entry tells " + told, x.find(path(5, 7)), 4);
            due.same("a plain file that its entry tells " + told, x.find(path(6, 7)), 0);
        }
    }

    private static void theFirstOfOneName(Due due) {
        due.sentence("promise 15", "of entries with one name the first");
        ImageChecker x = tree().entry(1, 3, 255, 3, 1).entry(2, 6, 1, 5, 2).entry(1, 4, 8, 25, 1).entry(1, 5, 8, 3, 1)
            .entry(1, 2, 7, 3, 1).entry(1, 6, 7, 2, 2).made();
        due.same("two files", x.find(path(255)), 2);
        due.same("two files, in a folder", x.find(path(255, 1)), 4);
        due.same("the first one leads to no file", x.find(path(8)), 0);
        due.same("the first one is no folder", x.find(path(7, 1)), 0);
        ImageChecker all = new Volume().entry(1, 7, 4, 9, 1).entry(1, 6, 4, 8, 1).entry(1, 1, 4, 7, 1).made();
        due.same("the first by its place", all.find(path(4)), 7);
    }

    private static void rings(Due due) {
        due.sentence("promise 15", "The file to which a path of names leads from the root on");
        due.same("all eight bytes 255, in a ring", new Volume().entry(1, 0, 255, 1, 2).made().find(-1L), 1);
        ImageChecker x = new Volume().set(2, 0, 2).entry(1, 0, 3, 2, 2).entry(2, 0, 4, 1, 2).entry(2, 1, 5, 2, 2).made();
        due.same("through the root again", x.find(path(3, 4, 3, 4)), 1);
        due.same("a folder in itself", x.find(path(3, 5, 5, 5)), 2);
    }
}
