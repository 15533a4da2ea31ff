/** Pass 2 of promise 9: the entries of folders. */
public final class FolderPassTest {
    public static void main(String[] args) {
        Due due = new Due();
        names(due);
        files(due);
        foldersTwice(due);
        kindsOfEntries(due);
        entriesComeUp(due);
        due.end("FolderPassTest");
    }

    private static void names(Due due) {
        for (int name : new int[] {1, 2, 128, 255}) {
            ImageChecker x = new Volume().set(2, 0, 1).entry(1, 0, name, 2, 1).made();
            due.same("name " + name + ": check()", x.check(), 8 + 16);
            due.sameEntry("name " + name, x, 1, 0, name, 2, 1);
        }
        for (int name : new int[] {0, -1, 256, 257, Integer.MAX_VALUE, Integer.MIN_VALUE}) {
            ImageChecker x = new Volume().set(2, 0, 1).entry(1, 0, name, 2, 1).entry(1, 1, 9, 2, 1).made();
            due.same("name " + name + ": check()", x.check(), 2 + 8 + 16);
            due.sameEntry("name " + name + " goes", x, 1, 0, 9, 2, 1);
            due.sameEntry("name " + name + " goes", x, 1, 1, 0, 0, 0);
        }
        ImageChecker x = new Volume().set(2, 0, 1).set(3, 0, 1).set(4, 0, 2)
            .entry(1, 0, 5, 2, 1).entry(1, 1, 5, 3, 1).entry(1, 2, 6, 3, 1).entry(1, 3, 5, 2, 1).entry(1, 4, 7, 4, 2)
            .entry(4, 0, 5, 3, 1).check().made();
        due.sameEntry("the first one with a name", x, 1, 0, 5, 2, 1);
        due.sameEntry("the next name", x, 1, 1, 6, 3, 1);
        due.sameEntry("the folder", x, 1, 2, 7, 4, 2);
        due.sameEntry("nothing more", x, 1, 3, 0, 0, 0);
        due.sameEntry("the same name in another folder", x, 4, 0, 5, 3, 1);
        ImageChecker y = new Volume().set(2, 0, 1).entry(1, 0, 5, 9, 1).entry(1, 1, 5, 2, 1).check().made();
        due.sameEntry("the name of one that went is free", y, 1, 0, 5, 2, 1);
    }

    private static void files(Due due) {
        for (int of : new int[] {0, -1, 25, 3, 1, Integer.MAX_VALUE, Integer.MIN_VALUE}) {
            Volume v = new Volume().entry(1, 0, 5, of, 2);
            due.same("an entry for file " + of + ": check()", v.checked(), 2);
            due.sameTables("an entry for file " + of, v, new Volume());
        }
        ImageChecker x = new Volume().set(24, 0, 3).set(2, 0, 1).entry(1, 3, 5, 24, 3).entry(1, 4, 6, 2, 1).check().made();
        due.sameEntry("an entry for file 24", x, 1, 0, 5, 24, 3);
        due.sameEntry("an entry for file 2", x, 1, 1, 6, 2, 1);
        ImageChecker bad = new Volume().set(3, 0, 4).entry(1, 0, 5, 3, 1).made();
        due.same("an entry for a record that pass 1 took: check()", bad.check(), 1 + 2);
    }

    private static void foldersTwice(Due due) {
        ImageChecker x = new Volume().set(2, 0, 2).set(3, 0, 2).set(4, 0, 1)
            .entry(1, 0, 1, 3, 2).entry(1, 1, 2, 3, 2).entry(1, 2, 3, 4, 1).entry(1, 3, 4, 4, 1)
            .entry(1, 4, 5, 2, 2).entry(2, 0, 1, 3, 2).entry(2, 1, 2, 4, 1).entry(3, 0, 1, 2, 2).made();
        due.same("a folder twice: check()", x.check(), 2 + 8 + 16);
        due.sameEntry("a folder's first entry", x, 1, 0, 1, 3, 2);
        due.sameEntry("a plain file", x, 1, 1, 3, 4, 1);
        due.sameEntry("a plain file again", x, 1, 2, 4, 4, 1);
        due.sameEntry("another folder", x, 1, 3, 5, 2, 2);
        due.sameEntry("nothing more", x, 1, 4, 0, 0, 0);
        due.sameEntry("the folder's entry in a folder behind went", x, 2, 0, 2, 4, 1);
        due.sameEntry("as did the one in the last", x, 3, 0, 0, 0, 0);
        ImageChecker y = new Volume().set(2, 0, 2).set(3, 0, 2).entry(1, 0, 1, 3, 2)
            .entry(2, 0, 300, 3, 2).entry(1, 1, 1, 2, 2).entry(3, 0, 7, 2, 2).check().made();
        due.sameEntry("an entry that went is none", y, 3, 0, 7, 2, 2);
        ImageChecker early = new Volume().set(2, 0, 2).set(3, 0, 2).entry(1, 0, 1, 2, 2)
            .entry(2, 0, 9, 3, 2).entry(3, 0, 9, 3, 2).check().made();
        due.sameEntry("the folder before keeps it", early, 2, 0, 9, 3, 2);
        due.sameEntry("the folder itself loses it", early, 3, 0, 0, 0, 0);
    }

    private static void kindsOfEntries(Due due) {
        for (int kind = 1; kind <= 3; kind++) {
            for (int told : new int[] {0, 1, 2, 3, -7, Integer.MAX_VALUE}) {
                ImageChecker x = new Volume().set(2, 0, kind).entry(1, 0, 5, 2, told).made();
                due.same("kind " + told + " for " + kind + ": check()", x.check(), (told == kind ? 0 : 2) + 8 + 16);
                due.sameEntry("kind " + told + " for " + kind, x, 1, 0, 5, 2, kind);
            }
        }
    }

    private static void entriesComeUp(Due due) {
        Volume v = new Volume().set(2, 0, 2).entry(1, 0, 1, 2, 2).check();
        Volume odd = new Volume().set(2, 0, 2).entry(1, 0, 1, 2, 2).check().entry(2, 6, 0, 5, 9).entry(1, 7, 0, 0, 1);
        due.same("places without a name: check()", odd.checked(), 2);
        due.sameTables("places without a name", odd, v);
        Volume up = new Volume().set(2, 0, 1).set(3, 0, 1);
        for (int k = 0; k < 8; k++) {
            up.entry(1, k, k % 2 == 0 ? 256 : 10 + k, 2 + k / 4, 1);
        }
        ImageChecker x = up.check().made();
        due.sameEntry("come up", x, 1, 0, 11, 2, 1);
        due.sameEntry("come up", x, 1, 1, 13, 2, 1);
        due.sameEntry("come up", x, 1, 2, 15, 3, 1);
        due.sameEntry("come up", x, 1, 3, 17, 3, 1);
        due.sameEntry("come up", x, 1, 4, 0, 0, 0);
    }
}
