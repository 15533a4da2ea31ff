/** Pass 3 of promise 9: files that hang nowhere, and files that wait. */
public final class HangingPassTest {
    public static void main(String[] args) {
        Due due = new Due();
        entriesInRoot(due);
        leastNames(due);
        rings(due);
        reachedByNewEntries(due);
        lowerFilesFirst(due);
        fullFolders(due);
        checksInARow(due);
        fullRoot(due);
        waitingRightly(due);
        waitingWrongly(due);
        lists(due);
        due.end("HangingPassTest");
    }

    /** The root with so many plain files, 24 and down, under the names 1 and up. */
    private static Volume rootWith(int files) {
        Volume v = new Volume();
        for (int k = 0; k < files; k++) {
            v.set(24 - k, 0, 1).entry(1, k, k + 1, 24 - k, 1);
        }
        return v;
    }

    private static void entriesInRoot(Due due) {
        for (int kind = 1; kind <= 3; kind++) {
            Volume v = new Volume().set(9, 0, kind).set(9, 1, 1024).run(9, 0, 0, 1, 100);
            due.same("kind " + kind + ": check()", v.checked(), 4 + 8 + 16);
            Volume want = new Volume().record(9, kind, 1024, kind == 2 ? 2 : 1, 0, kind == 2 ? 1 : 0)
                .run(9, 0, 0, 1, 100).entry(1, 0, 1, 9, kind).set(1, 2, kind == 2 ? 3 : 2)
                .bit(0, 100, true).bit(1, 9, true).tell(0, 191).tell(1, 22);
            due.sameTables("kind " + kind, v, want);
        }
    }

    private static void leastNames(Due due) {
        ImageChecker x = new Volume().set(5, 0, 1).set(6, 0, 1).set(7, 0, 1).set(8, 0, 2)
            .entry(1, 0, 2, 5, 1).entry(1, 1, 255, 5, 1).entry(1, 2, 3, 8, 2).entry(8, 0, 1, 5, 1).check().made();
        due.sameEntry("behind the others, the least name", x, 1, 3, 1, 6, 1);
        due.sameEntry("then the next one", x, 1, 4, 4, 7, 1);
        ImageChecker full = rootWith(7).set(3, 0, 3).check().made();
        due.sameEntry("name 8 behind 1 to 7", full, 1, 7, 8, 3, 3);
    }

    private static void rings(Due due) {
        ImageChecker self = new Volume().set(4, 0, 2).set(5, 0, 1).entry(4, 0, 8, 4, 2).entry(4, 1, 9, 5, 1).made();
        due.same("a folder in itself: check()", self.check(), 4 + 8 + 16);
        due.sameEntry("a folder in itself", self, 1, 0, 1, 4, 2);
        due.sameEntry("its entry for itself went, the other came up", self, 4, 0, 9, 5, 1);
        due.sameEntry("its entry for itself went", self, 4, 1, 0, 0, 0);
        due.same("its links", self.about(4, 2), 2);
        ImageChecker three = new Volume().set(4, 0, 2).set(5, 0, 2).set(6, 0, 2)
            .entry(4, 0, 8, 6, 2).entry(6, 0, 8, 5, 2).entry(5, 0, 8, 4, 2).made();
        due.same("a ring of three: check()", three.check(), 4 + 8 + 16);
        due.same("the least one hangs in the root", three.find(1), 4);
        due.same("the others behind it", three.find(0x080801), 5);
        due.sameEntry("the ring is open", three, 5, 0, 0, 0, 0);
        due.same("parent", three.about(5, 4), 6);
        due.same("again: check()", three.check(), 0);
    }

    private static void reachedByNewEntries(Due due) {
        ImageChecker x = new Volume().set(3, 0, 2).set(5, 0, 2).set(7, 0, 1).entry(3, 0, 9, 5, 2).entry(5, 0, 9, 7, 1).check().made();
        due.sameEntry("the folder", x, 1, 0, 1, 3, 2);
        due.sameEntry("what is in it hangs there", x, 1, 1, 0, 0, 0);
        due.same("what is in it", x.find(0x090901), 7);
    }

    private static void lowerFilesFirst(Due due) {
        ImageChecker x = new Volume().set(3, 0, 1).set(7, 0, 2).set(9, 0, 1).set(10, 0, 2)
            .entry(7, 0, 20, 9, 1).entry(7, 1, 21, 3, 1).entry(7, 2, 22, 9, 1).entry(7, 3, 23, 3, 1)
            .entry(10, 0, 30, 3, 1).entry(10, 1, 31, 9, 1).check().made();
        due.sameEntry("a file before its folder gets an entry of its own", x, 1, 0, 1, 3, 1);
        due.sameEntry("then its folder", x, 1, 1, 2, 7, 2);
        due.sameEntry("then the other folder", x, 1, 2, 3, 10, 2);
        due.sameEntry("nothing more", x, 1, 3, 0, 0, 0);
        due.sameEntry("all entries for it went", x, 7, 0, 20, 9, 1);
        due.sameEntry("those behind came up", x, 7, 1, 22, 9, 1);
        due.sameEntry("all entries for it went", x, 7, 2, 0, 0, 0);
        due.sameEntry("in each folder", x, 10, 0, 31, 9, 1);
        due.sameEntry("in each folder", x, 10, 1, 0, 0, 0);
        due.same("links of the one", x.about(3, 2), 1);
        due.same("links of the other", x.about(9, 2), 3);
    }

    /** A folder of eight entries, some of which lead to a file before it. */
    private static void fullFolders(Due due) {
        Volume v = new Volume().set(3, 0, 1).set(24, 0, 2).set(23, 0, 1);
        for (int k = 0; k < 8; k++) {
            v.entry(24, k, 50 + k, k == 0 || k == 4 || k == 7 ? 3 : 23, 1);
        }
        v.set(22, 0, 2).entry(22, 0, 9, 24, 2);
        ImageChecker x = v.made();
        due.same("a full folder: check()", x.check(), 4 + 8 + 16);
        int[] names = {51, 52, 53, 55, 56};
        due.sameEntry("the file", x, 1, 0, 1, 3, 1);
        due.sameEntry("the folder of the full folder", x, 1, 1, 2, 22, 2);
        due.sameEntry("file 23 is reached by then", x, 1, 2, 0, 0, 0);
        due.same("links of file 23", x.about(23, 2), 5);
        for (int k = 0; k < 8; k++) {
            due.sameEntry("a full folder", x, 24, k, k < 5 ? new int[] {names[k], 23, 1} : new int[3]);
        }
        due.same("a full folder, again: check()", x.check(), 0);
    }

    /** What one check has found of reached and waiting files counts for no later one. */
    private static void checksInARow(Due due) {
        ImageChecker x = new Volume().set(5, 0, 1).hold(5, true).tell(2, 5).check()
            .tell(2, 0).set(6, 0, 1).entry(1, 0, 9, 6, 1).check().made();
        due.same("waited once, then hangs nowhere", x.find(1), 5);
        due.same("nothing waits", x.told(2), 0);
        x.entry(1, 0, 0, 0, 0);
        due.same("reached once, then hangs nowhere: check()", x.check(), 2 + 4);
        due.same("reached once, then hangs nowhere", x.find(2), 6);
    }

    private static void fullRoot(Due due) {
        Volume v = rootWith(8).set(3, 0, 2).set(3, 1, 9).run(3, 0, 0, 1, 99).set(2, 0, 1).set(9, 0, 3)
            .entry(3, 0, 1, 24, 1).entry(3, 1, 2, 2, 1).entry(3, 2, 3, 9, 3);
        due.same("a full root: check()", v.checked(), 4 + 8 + 16);
        due.sameTables("a full root", v, rootWith(8).check());
        due.same("a full root, again: check()", v.checked(), 0);
        ImageChecker seven = rootWith(7).set(3, 0, 1).set(4, 0, 1).check().made();
        due.same("the eighth comes in", seven.find(8), 3);
        due.same("the ninth goes", seven.about(4, 0), 0);
        Volume waits = rootWith(8).set(3, 0, 1).hold(3, true).tell(2, 3).check();
        due.same("one that waits on needs no entry", waits.made().about(3, 0), 1);
    }

    private static void waitingRightly(Due due) {
        for (int kind : new int[] {1, 3}) {
            Volume held = new Volume().record(5, kind, 1024, 0, 0, 0).run(5, 0, 0, 1, 90).hold(5, true).tell(2, 5);
            due.same("held: check()", held.checked(), 16);
            due.sameTables("held", held, new Volume().record(5, kind, 1024, 0, 0, 0).run(5, 0, 0, 1, 90).tell(2, 5)
                .bit(0, 90, true).bit(1, 5, true).tell(0, 191).tell(1, 22));
            Volume free = new Volume().record(5, kind, 1024, 0, 0, 0).run(5, 0, 0, 1, 90).tell(2, 5)
                .bit(0, 90, true).bit(1, 5, true).tell(0, 191).tell(1, 22);
            due.same("not held: check()", free.checked(), 4 + 8 + 16);
            due.sameTables("not held", free, new Volume());
        }
    }

    private static void waitingWrongly(Due due) {
        due.same("a folder", new Volume().set(5, 0, 2).hold(5, true).tell(2, 5).check().made().find(1), 5);
        due.same("links 1", new Volume().set(5, 0, 1).set(5, 2, 1).hold(5, true).tell(2, 5).check().made().find(1), 5);
        due.same("links -1", new Volume().set(5, 0, 1).set(5, 2, -1).tell(2, 5).check().made().find(1), 5);
        due.same("not in the list", new Volume().set(5, 0, 1).hold(5, true).check().made().find(1), 5);
        ImageChecker x = new Volume().set(5, 0, 1).hold(5, true).tell(2, 5).entry(1, 0, 77, 5, 1).check().made();
        due.same("reached: it stays where it is", x.find(77), 5);
        due.same("reached: it waits no more", x.told(2), 0);
        due.same("reached: links", x.about(5, 2), 1);
        ImageChecker y = new Volume().set(5, 0, 1).set(7, 0, 2).tell(2, 5).entry(7, 0, 77, 5, 1).check().made();
        due.same("an entry in a folder that is not reached", y.find(1), 5);
        ImageChecker z = new Volume().set(9, 0, 1).set(7, 0, 2).tell(2, 9).entry(7, 0, 77, 9, 1).check().made();
        due.same("the same, the folder before it", z.find(0x4d01), 9);
        ImageChecker full = rootWith(8).set(3, 0, 2).set(9, 0, 1).hold(9, true).tell(2, 9).entry(3, 0, 77, 9, 1).check().made();
        due.same("as it was before this pass: its entry went with a folder, but it had one", full.about(9, 0), 0);
    }

    private static void lists(Due due) {
        Volume v = new Volume().tell(2, 1).set(1, 3, 20).hold(20, true).hold(21, true).hold(23, true)
            .set(20, 0, 1).set(20, 3, 22).set(22, 0, 3).set(22, 3, 23).set(23, 0, 3).set(23, 3, 24)
            .set(24, 0, 2).set(24, 3, 21).set(21, 0, 1).set(21, 3, 22).set(2, 0, 1).hold(2, true);
        ImageChecker x = v.made();
        due.same("a list through all kinds of files: check()", x.check(), 4 + 8 + 16);
        due.same("the first one", x.told(2), 20);
        due.same("then", x.about(20, 3), 23);
        due.same("then", x.about(23, 3), 21);
        due.same("the last one", x.about(21, 3), 0);
        due.same("one that is not held goes", x.about(22, 0), 0);
        due.same("one that is not in it", x.find(1), 2);
        due.same("the folder in it", x.find(2), 24);
        due.same("the root's behind", x.about(1, 3), 0);
        due.same("the folder's behind", x.about(24, 3), 0);
        due.same("again: check()", x.check(), 0);
        ImageChecker cut = new Volume().tell(2, 4).set(4, 0, 1).set(4, 3, 5).hold(4, true).set(5, 3, 6)
            .set(6, 0, 1).hold(6, true).check().made();
        due.same("a file of kind 0 ends the list, pass 1 took its number", cut.find(1), 6);
        due.same("what comes before waits on", cut.told(2), 4);
        due.same("its behind", cut.about(4, 3), 0);
        for (int end : new int[] {25, -1, Integer.MAX_VALUE, Integer.MIN_VALUE, 4}) {
            ImageChecker y = new Volume().tell(2, 4).set(4, 0, 1).set(4, 3, end).hold(4, true).made();
            due.same("a list that ends with " + end + ": check()", y.check(), 8 + 16);
            due.same("a list that ends with " + end, y.about(4, 3), 0);
            due.same("its first one", y.told(2), 4);
        }
        for (int first : new int[] {25, -1, Integer.MAX_VALUE, Integer.MIN_VALUE, 4, 1}) {
            Volume y = new Volume().tell(2, first);
            due.same("a list from " + first + ": check()", y.checked(), 8);
            due.sameTables("a list from " + first, y, new Volume());
        }
        Volume all = new Volume();
        for (int file = 2; file <= 24; file++) {
            all.set(file, 0, 1).set(file, 3, file - 1).hold(file, true);
        }
        due.same("all files wait: check()", all.tell(2, 24).checked(), 8 + 16);
        due.same("all files wait, the last one", all.made().about(2, 3), 0);
        due.same("all files wait, the one before", all.made().about(3, 3), 2);
        due.same("all files wait, free files", all.made().told(1), 0);
        due.same("all 24 files in the list, the root first: check()", all.tell(2, 1).set(1, 3, 24).checked(), 8);
        due.same("the last one of 24 waits on", all.made().about(3, 3), 2);
    }
}
