/** Pass 3 of promise 9, a test for each of its sentences. */
public final class HangingPassTest {
    private static final int MAX = Integer.MAX_VALUE;
    private static final int MIN = Integer.MIN_VALUE;

    public static void main(String[] args) {
        Due due = new Due();
        reached(due);
        ringsAreNotReached(due);
        foldersDontWait(due);
        linksOfThoseThatWait(due);
        entriesOfThoseThatWait(due);
        inTheList(due);
        listsOfNoFiles(due);
        listsInARing(due);
        byTheirNumbers(due);
        ofAnotherKind(due);
        entriesOfThisPass(due);
        heldOnesStay(due);
        asBeforeThisPass(due);
        othersGo(due);
        entriesGo(due);
        entriesComeUp(due);
        behindTheOthers(due);
        leastNames(due);
        kindsOfEntries(due);
        fullRoot(due);
        foldersInAFullRoot(due);
        rootThatBecomesFull(due);
        checksInARow(due);
        due.end("HangingPassTest");
    }

    private static int[] row(int... numbers) {
        return numbers;
    }

    /** A file of a kind that waits alone, as the first of the list. */
    private static Volume waiting(int file, int kind) {
        return new Volume().set(file, 0, kind).tell(2, file);
    }

    private static void waitsOn(Due due, String what, int file, Volume v) {
        ImageChecker x = v.check().made();
        due.same(what + ": the first one that waits", x.told(2), file);
        due.same(what + ": its links", x.about(file, 2), 0);
        due.sameEntries(what + ": the root's entries", x, 1);
    }

    private static void hangsInRoot(Due due, String what, int file, Volume v) {
        ImageChecker x = v.check().made();
        due.same(what + ": it is found in the root", x.find(1), file);
        due.same(what + ": nothing waits", x.told(2), 0);
    }

    private static void reached(Due due) {
        due.sentence("pass 3", "A file is REACHED, if it is the root, or an entry for it is in a folder that is reached.");
        due.same("the root alone: check()", new Volume().checked(), 0);
        Volume up = new Volume();
        Volume down = new Volume();
        for (int file = 2; file <= 24; file++) {
            up.set(file, 0, 2).entry(file - 1, 3, file, file, 2);
            down.set(file, 0, 2).entry(file == 24 ? 1 : file + 1, 7, file, file, 2);
        }
        due.same("a folder in a folder, 23 deep: check()", up.checked(), 2 + 8 + 16);
        due.same("again: check()", up.checked(), 0);
        due.sameEntries("each stays where it is", up.made(), 23, row(24, 24, 2));
        due.same("the same, from file 24 down: check()", down.checked(), 2 + 8 + 16);
        due.same("again: check()", down.checked(), 0);
        due.sameEntries("each stays where it is", down.made(), 3, row(2, 2, 2));
        Volume plain = new Volume().set(2, 0, 2).set(3, 0, 1).set(4, 0, 3).entry(1, 0, 1, 2, 2).entry(2, 0, 1, 3, 1)
            .entry(2, 1, 2, 4, 3);
        due.same("plain files and links: check()", plain.checked(), 8 + 16);
    }

    private static void ringsAreNotReached(Due due) {
        due.sentence("pass 3", "or an entry for it is in a folder that is reached.");
        ImageChecker self = new Volume().set(4, 0, 2).set(5, 0, 1).entry(4, 0, 8, 4, 2).entry(4, 1, 9, 5, 1).made();
        due.same("a folder in itself: check()", self.check(), 4 + 8 + 16);
        due.sameEntries("it hangs in the root", self, 1, row(1, 4, 2));
        due.sameEntries("its entry for itself went", self, 4, row(9, 5, 1));
        due.same("its links", self.about(4, 2), 2);
        ImageChecker two = new Volume().kinds(2, 23, 24).entry(23, 0, 8, 24, 2).entry(24, 0, 8, 23, 2).made();
        due.same("a ring of two: check()", two.check(), 4 + 8 + 16);
        due.sameEntries("the first one hangs in the root", two, 1, row(1, 23, 2));
        due.sameEntries("the second one in it", two, 23, row(8, 24, 2));
        due.sameEntries("the ring is open", two, 24);
        ImageChecker three = new Volume().kinds(2, 4, 5, 6).entry(4, 0, 8, 6, 2).entry(6, 0, 8, 5, 2).entry(5, 0, 8, 4, 2)
            .made();
        due.same("a ring of three: check()", three.check(), 4 + 8 + 16);
        due.same("the first one hangs in the root", three.find(1), 4);
        due.same("the others behind it", three.find(0x080801), 5);
        due.sameEntries("the ring is open", three, 5);
        due.same("again: check()", three.check(), 0);
        Volume all = new Volume();
        for (int file = 2; file <= 24; file++) {
            all.set(file, 0, 2).entry(file, 0, 9, file == 24 ? 2 : file + 1, 2);
        }
        due.same("a ring of all other files: check()", all.checked(), 4 + 8 + 16);
        due.sameEntries("the first one hangs in the root", all.made(), 1, row(1, 2, 2));
        due.sameEntries("the ring is open", all.made(), 24);
    }

    private static void foldersDontWait(Due due) {
        due.sentence("pass 3", "A file WAITS RIGHTLY, if it is no folder");
        waitsOn(due, "a plain file", 5, waiting(5, 1).hold(5, true));
        waitsOn(due, "a link", 5, waiting(5, 3).hold(5, true));
        hangsInRoot(due, "a folder", 5, waiting(5, 2).hold(5, true));
        hangsInRoot(due, "a folder that is not held", 5, waiting(5, 2));
        Volume root = new Volume().tell(2, 1).hold(1, true);
        due.same("the root: check()", root.checked(), 8);
        due.sameTables("the root", root, new Volume());
    }

    private static void linksOfThoseThatWait(Due due) {
        due.sentence("pass 3", "if it is no folder, has links 0");
        waitsOn(due, "links 0", 5, waiting(5, 1).set(5, 2, 0).hold(5, true));
        for (int links : new int[] {1, -1, 2, 256, MAX, MIN}) {
            hangsInRoot(due, "links " + links, 5, waiting(5, 1).set(5, 2, links).hold(5, true));
            hangsInRoot(due, "links " + links + ", not held", 5, waiting(5, 3).set(5, 2, links));
        }
    }

    private static void entriesOfThoseThatWait(Due due) {
        due.sentence("pass 3", "has links 0, no entry leads to it");
        ImageChecker x = waiting(5, 1).hold(5, true).entry(1, 0, 77, 5, 1).check().made();
        due.same("an entry in the root: it stays where it is", x.find(77), 5);
        due.same("an entry in the root: it waits no more", x.told(2), 0);
        due.same("an entry in the root: links", x.about(5, 2), 1);
        hangsInRoot(due, "an entry in a folder that is not reached", 5, waiting(5, 1).hold(5, true).set(7, 0, 2)
            .entry(7, 0, 77, 5, 1));
        hangsInRoot(due, "the last entry of the last folder", 5, waiting(5, 1).set(24, 0, 2).set(6, 0, 1)
            .entry(24, 0, 1, 6, 1).entry(24, 1, 2, 6, 1).entry(24, 2, 3, 6, 1).entry(24, 3, 4, 6, 1)
            .entry(24, 4, 5, 6, 1).entry(24, 5, 6, 6, 1).entry(24, 6, 7, 6, 1).entry(24, 7, 8, 5, 1));
        ImageChecker before = waiting(9, 1).set(7, 0, 2).entry(7, 0, 77, 9, 1).check().made();
        due.same("the same, the folder before it", before.find(0x4d01), 9);
        waitsOn(due, "an entry that pass 2 took", 5, waiting(5, 1).hold(5, true).entry(1, 0, 256, 5, 1));
        waitsOn(due, "an entry that pass 1 took", 5, waiting(5, 1).hold(5, true).entry(5, 0, 9, 5, 1));
    }

    private static void inTheList(Due due) {
        due.sentence("pass 3", "and it comes in the list: from the first one that waits, by behind");
        hangsInRoot(due, "not in the list", 5, new Volume().set(5, 0, 1).hold(5, true));
        hangsInRoot(due, "its behind does not make it one", 5, new Volume().set(5, 0, 1).set(5, 3, 5).hold(5, true));
        Volume v = new Volume().tell(2, 1).set(1, 3, 20).hold(20, true).hold(21, true).hold(23, true)
            .set(20, 0, 1).set(20, 3, 22).set(22, 0, 3).set(22, 3, 23).set(23, 0, 3).set(23, 3, 24)
            .set(24, 0, 2).set(24, 3, 21).set(21, 0, 1).set(2, 0, 1).hold(2, true);
        ImageChecker x = v.made();
        due.same("through the root, a folder, files that are not held: check()", x.check(), 4 + 8 + 16);
        due.same("the first one", x.told(2), 20);
        due.same("then", x.about(20, 3), 23);
        due.same("then", x.about(23, 3), 21);
        due.same("the last one", x.about(21, 3), 0);
        due.sameEntries("one that is not in it, and the folder", x, 1, row(1, 2, 1), row(2, 24, 2));
        due.same("again: check()", x.check(), 0);
        Volume all = new Volume();
        for (int file = 2; file <= 24; file++) {
            all.set(file, 0, 1).set(file, 3, file - 1).hold(file, true);
        }
        due.same("23 files wait: check()", all.tell(2, 24).checked(), 8 + 16);
        due.same("23 files wait: the one before the last", all.made().about(3, 3), 2);
        due.same("all 24 files in the list, the root first: check()", all.tell(2, 1).set(1, 3, 24).checked(), 8);
        due.same("the last one of 24 waits on", all.made().about(3, 3), 2);
    }

    private static void listsOfNoFiles(Due due) {
        due.sentence("pass 3", "as long as these are files of 1 .. 24");
        for (int none : new int[] {0, -1, 25, 256 + 5, MAX, MIN}) {
            Volume first = new Volume().tell(2, none);
            due.same("a list from " + none + ": check()", first.checked(), none == 0 ? 0 : 8);
            due.sameTables("a list from " + none, first, new Volume());
            hangsInRoot(due, "a list from " + none, 5, new Volume().tell(2, none).set(5, 0, 1).hold(5, true));
            ImageChecker x = waiting(4, 1).hold(4, true).set(4, 3, none).set(5, 0, 1).hold(5, true).made();
            due.same("a list that comes to " + none + ": check()", x.check(), 4 + 8 + 16);
            due.same("what comes before waits on", x.told(2), 4);
            due.same("as the last one", x.about(4, 3), 0);
            due.same("what does not come hangs in the root", x.find(1), 5);
        }
        for (int edge : new int[] {2, 24}) {
            waitsOn(due, "a list from " + edge, edge, waiting(edge, 1).hold(edge, true));
        }
        ImageChecker cut = waiting(4, 1).set(4, 3, 5).hold(4, true).set(5, 3, 6).set(6, 0, 1).hold(6, true).check().made();
        due.same("a file of kind 0 ends the list, pass 1 took its number", cut.find(1), 6);
        due.same("what comes before waits on", cut.told(2), 4);
        Volume one = new Volume().tell(2, 9);
        due.same("a list from a file of kind 0: check()", one.checked(), 8);
        due.sameTables("a list from a file of kind 0", one, new Volume());
    }

    private static void listsInARing(Due due) {
        due.sentence("pass 3", "that did not come before");
        Volume self = waiting(4, 1).set(4, 3, 4).hold(4, true);
        due.same("a file behind itself: check()", self.checked(), 8 + 16);
        due.same("it waits on", self.made().told(2), 4);
        due.same("nothing is behind it", self.made().about(4, 3), 0);
        for (int back = 4; back <= 7; back++) {
            ImageChecker x = waiting(4, 1).set(4, 3, 6).set(6, 0, 3).set(6, 3, 5).set(5, 0, 1).set(5, 3, 7).set(7, 0, 3)
                .set(7, 3, back).hold(4, true).hold(5, true).hold(6, true).hold(7, true).made();
            due.same("back to " + back + ": check()", x.check(), 8 + 16);
            due.same("the first one", x.told(2), 4);
            due.same("the second one", x.about(4, 3), 6);
            due.same("the third one", x.about(6, 3), 5);
            due.same("the fourth one", x.about(5, 3), 7);
            due.same("the last one", x.about(7, 3), 0);
        }
        Volume root = new Volume().tell(2, 1).set(1, 3, 1);
        due.same("the root behind itself: check()", root.checked(), 8);
        due.sameTables("the root behind itself", root, new Volume());
    }

    private static void byTheirNumbers(Due due) {
        due.sentence("pass 3", "By their numbers, each file");
        ImageChecker x = new Volume().kinds(1, 24, 9, 2, 13).check().made();
        due.sameEntries("from the least one on", x, 1, row(1, 2, 1), row(2, 9, 1), row(3, 13, 1), row(4, 24, 1));
        ImageChecker y = new Volume().set(3, 0, 1).set(7, 0, 2).entry(7, 0, 20, 3, 1).check().made();
        due.sameEntries("a file before its folder gets an entry of its own", y, 1, row(1, 3, 1), row(2, 7, 2));
        due.sameEntries("its folder loses it", y, 7);
    }

    private static void ofAnotherKind(Due due) {
        due.sentence("pass 3", "each file of another kind than 0 that is not reached");
        for (int file : new int[] {2, 24}) {
            for (int kind = 1; kind <= 3; kind++) {
                Volume v = new Volume().set(file, 0, kind).set(file, 1, 1024).run(file, 0, 0, 1, 100);
                due.same("kind " + kind + ": check()", v.checked(), 4 + 8 + 16);
                Volume want = new Volume().record(file, kind, 1024, kind == 2 ? 2 : 1, 0, kind == 2 ? 1 : 0)
                    .run(file, 0, 0, 1, 100).entry(1, 0, 1, file, kind).set(1, 2, kind == 2 ? 3 : 2)
                    .bit(0, 100, true).bit(1, file, true).tell(0, 191).tell(1, 22);
                due.sameTables("kind " + kind, v, want);
            }
            Volume none = new Volume().bit(1, file, true).hold(file, true).tell(2, file);
            due.same("kind 0: check()", none.checked(), 8 + 16);
            due.sameTables("kind 0", none, new Volume());
        }
    }

    private static void entriesOfThisPass(Due due) {
        due.sentence("pass 3", "(then, entries that this pass made counting)");
        ImageChecker x = new Volume().kinds(2, 3, 5).set(7, 0, 1).entry(3, 0, 9, 5, 2).entry(5, 0, 9, 7, 1).check().made();
        due.sameEntries("the folder alone gets an entry", x, 1, row(1, 3, 2));
        due.same("what is in it hangs there", x.find(0x0901), 5);
        due.same("what is in that, too", x.find(0x090901), 7);
        ImageChecker deep = new Volume().kinds(2, 2, 20, 10).set(3, 0, 1).entry(2, 0, 9, 20, 2).entry(20, 0, 9, 10, 2)
            .entry(10, 0, 9, 3, 1).check().made();
        due.sameEntries("through folders of greater numbers", deep, 1, row(1, 2, 2));
        ImageChecker wide = new Volume().set(2, 0, 2).kinds(1, 3, 4, 5).entry(2, 0, 7, 3, 1).entry(2, 1, 8, 4, 1)
            .entry(2, 2, 9, 5, 1).check().made();
        due.sameEntries("all that is in it", wide, 1, row(1, 2, 2));
    }

    private static void heldOnesStay(Due due) {
        due.sentence("pass 3", "if it waits rightly (as it was before this pass) and is held, it stays, and waits on");
        for (int kind : new int[] {1, 3}) {
            for (int file : new int[] {2, 5, 24}) {
                Volume v = new Volume().record(file, kind, 1024, 0, 0, 0).run(file, 0, 0, 1, 90).hold(file, true)
                    .tell(2, file);
                due.same("held: check()", v.checked(), 16);
                due.sameTables("held", v, new Volume().record(file, kind, 1024, 0, 0, 0).run(file, 0, 0, 1, 90)
                    .tell(2, file).bit(0, 90, true).bit(1, file, true).tell(0, 191).tell(1, 22));
                due.same("again: check()", v.checked(), 0);
            }
        }
        Volume full = Volume.rootWith(8).set(3, 0, 1).hold(3, true).tell(2, 3);
        due.same("it needs no place in the root: check()", full.checked(), 8 + 16);
        due.same("it stays", full.made().about(3, 0), 1);
    }

    private static void asBeforeThisPass(Due due) {
        due.sentence("pass 3", "(as it was before this pass)");
        ImageChecker list = waiting(3, 1).set(3, 3, 9).kinds(1, 9, 6).set(9, 3, 6).hold(9, true).hold(6, true).check().made();
        due.same("the list before it goes, with its number", list.about(3, 0), 0);
        due.same("the first one that waits", list.told(2), 9);
        due.same("the next one", list.about(9, 3), 6);
        due.sameEntries("none of them hangs in the root", list, 1);
        ImageChecker full = Volume.rootWith(8).set(3, 0, 2).set(9, 0, 1).hold(9, true).tell(2, 9).entry(3, 0, 77, 9, 1)
            .check().made();
        due.same("its folder goes first, but an entry led to it", full.about(9, 0), 0);
        due.same("it does not wait", full.told(2), 0);
        ImageChecker through = Volume.rootWith(8).set(3, 0, 2).set(3, 3, 9).tell(2, 3).set(9, 0, 1).hold(9, true)
            .check().made();
        due.same("a folder in the list goes, what is behind it came in the list", through.told(2), 9);
        due.same("it waits on", through.about(9, 0), 1);
    }

    private static void othersGo(Due due) {
        due.sentence("pass 3", "if it waits rightly and is not held, its record goes (all 0)");
        for (int kind : new int[] {1, 3}) {
            for (int file : new int[] {2, 5, 24}) {
                Volume v = new Volume().record(file, kind, 65536, 0, 7, 9).tell(2, file);
                for (int k = 0; k < 6; k++) {
                    v.run(file, k, 9 * k, 1, 90 + 2 * k);
                }
                due.same("not held: check()", v.checked(), 4 + 8);
                due.sameTables("not held", v, new Volume());
            }
        }
        Volume other = waiting(5, 1).hold(4, true).hold(6, true).check();
        due.sameTables("others are held", other, new Volume());
        Volume full = Volume.rootWith(8).set(3, 0, 1).tell(2, 3);
        due.same("with a full root: check()", full.checked(), 4 + 8 + 16);
        due.sameTables("with a full root", full, Volume.rootWith(8).check());
    }

    private static void entriesGo(Due due) {
        due.sentence("pass 3", "Otherwise all entries that lead to it go");
        ImageChecker x = new Volume().set(3, 0, 1).set(9, 0, 1).kinds(2, 7, 10)
            .entry(7, 0, 20, 3, 1).entry(7, 1, 21, 3, 1).entry(10, 0, 30, 3, 1).entry(10, 1, 31, 9, 1)
            .check().made();
        due.sameEntries("it, and the folders", x, 1, row(1, 3, 1), row(2, 7, 2), row(3, 9, 1), row(4, 10, 2));
        due.sameEntries("both entries in a folder", x, 7);
        due.sameEntries("one that leads to another file goes when its turn comes", x, 10);
        due.same("its links", x.about(3, 2), 1);
        ImageChecker folder = new Volume().kinds(2, 5, 24).entry(24, 0, 9, 5, 2).entry(5, 0, 9, 24, 2).check().made();
        due.sameEntries("an entry for a folder", folder, 24);
        due.same("its parent", folder.about(5, 4), 1);
        ImageChecker full = Volume.rootWith(8).set(2, 0, 1).set(3, 0, 2).hold(3, true).entry(3, 0, 9, 2, 1).check().made();
        due.sameEntries("in a folder that goes itself", full, 3);
    }

    private static void entriesComeUp(Due due) {
        due.sentence("pass 3", "(those behind them come up)");
        Volume v = new Volume().set(3, 0, 1).set(24, 0, 2).set(23, 0, 1).set(22, 0, 2).entry(22, 0, 9, 24, 2);
        for (int k = 0; k < 8; k++) {
            v.entry(24, k, 50 + k, k == 0 || k == 4 || k == 7 ? 3 : 23, 1);
        }
        ImageChecker x = v.made();
        due.same("a full folder: check()", x.check(), 4 + 8 + 16);
        due.sameEntries("the first, the fifth and the last one go", x, 24, row(51, 23, 1), row(52, 23, 1), row(53, 23, 1),
            row(55, 23, 1), row(56, 23, 1));
        due.same("links of those that stay", x.about(23, 2), 5);
        due.same("again: check()", x.check(), 0);
        Volume all = new Volume().set(3, 0, 1).set(24, 0, 2);
        for (int k = 0; k < 8; k++) {
            all.entry(24, k, 50 + k, 3, 1);
        }
        due.sameEntries("all eight go", all.check().made(), 24);
    }

    private static void behindTheOthers(Due due) {
        due.sentence("pass 3", "it gets an entry in the root, behind the others");
        for (int others = 0; others < 8; others++) {
            ImageChecker x = Volume.rootWith(others).set(2, 0, 1).check().made();
            due.sameEntry("behind " + others, x, 1, others, others + 1, 2, 1);
        }
        ImageChecker x = new Volume().set(9, 0, 1).set(2, 0, 1).entry(1, 5, 200, 9, 1).check().made();
        due.sameEntries("behind those that pass 2 moved", x, 1, row(200, 9, 1), row(1, 2, 1));
    }

    private static void leastNames(Due due) {
        due.sentence("pass 3", "with the least name that is in none of them");
        int[][] names = {{}, {1}, {2}, {255}, {2, 1}, {1, 3}, {3, 2, 5}, {4, 3, 2, 1}, {1, 2, 3, 4, 5, 6, 7},
            {7, 6, 5, 4, 3, 2, 1}, {2, 3, 4, 5, 6, 7, 8}, {1, 2, 3, 4, 5, 6, 8}, {255, 254, 128, 1, 127, 2, 4}};
        int[] least = {1, 2, 1, 1, 3, 2, 1, 5, 8, 8, 1, 7, 3};
        for (int i = 0; i < names.length; i++) {
            Volume v = new Volume().kinds(1, 2, 9);
            for (int k = 0; k < names[i].length; k++) {
                v.entry(1, k, names[i][k], 9, 1);
            }
            if (names[i].length == 0) {
                v.set(9, 0, 0);
            }
            due.sameEntry("names " + i, v.check().made(), 1, names[i].length, least[i], 2, 1);
        }
        ImageChecker x = new Volume().kinds(1, 5, 6, 7).set(8, 0, 2).entry(1, 0, 2, 5, 1).entry(1, 1, 8, 8, 2)
            .entry(8, 0, 1, 5, 1).entry(8, 1, 3, 5, 1).check().made();
        due.sameEntries("names in other folders don't count, those of this pass do", x, 1, row(2, 5, 1), row(8, 8, 2),
            row(1, 6, 1), row(3, 7, 1));
        ImageChecker went = new Volume().set(2, 0, 1).entry(1, 0, 1, 9, 1).check().made();
        due.sameEntries("names that pass 2 took don't count", went, 1, row(1, 2, 1));
    }

    private static void kindsOfEntries(Due due) {
        due.sentence("pass 3", "with the least name that is in none of them, and its kind");
        ImageChecker x = new Volume().set(2, 0, 3).set(3, 0, 1).set(4, 0, 2).check().made();
        due.sameEntries("a link, a plain file, a folder", x, 1, row(1, 2, 3), row(2, 3, 1), row(3, 4, 2));
    }

    private static void fullRoot(Due due) {
        due.sentence("pass 3", "if the root has 8 already, its record goes, too");
        for (int kind = 1; kind <= 3; kind++) {
            for (int file : new int[] {2, 16}) {
                Volume v = Volume.rootWith(8).check().record(file, kind, 65536, 3, 4, 5).run(file, 0, 0, 64, 9)
                    .run(file, 1, 64, 1, 80).bit(1, file, true);
                due.same("kind " + kind + ": check()", v.checked(), 1 + 4 + 16);
                due.sameTables("kind " + kind, v, Volume.rootWith(8).check());
                due.same("again: check()", v.checked(), 0);
            }
        }
        due.same("held, but not waiting", Volume.rootWith(8).set(3, 0, 1).hold(3, true).check().made().about(3, 0), 0);
        ImageChecker ring = Volume.rootWith(8).kinds(2, 3, 4, 5).entry(3, 0, 9, 4, 2).entry(4, 0, 9, 5, 2).entry(5, 0, 9, 3, 2)
            .check().made();
        due.same("a ring of folders", ring.about(3, 0) + ring.about(4, 0) + ring.about(5, 0), 0);
    }

    private static void foldersInAFullRoot(Due due) {
        due.sentence("pass 3", "its record goes (all 0)");
        Volume v = Volume.rootWith(8).set(3, 0, 2).set(3, 1, 9).run(3, 0, 0, 1, 99).set(2, 0, 1).set(9, 0, 3)
            .entry(3, 0, 1, 24, 1).entry(3, 1, 2, 2, 1).entry(3, 2, 3, 9, 3);
        due.same("a folder, a file before it and one behind it: check()", v.checked(), 4 + 8 + 16);
        due.sameTables("all three go, and the entry for a file that stays", v, Volume.rootWith(8).check());
        due.same("again: check()", v.checked(), 0);
        // It is then one of kind 0, so that its entries are 0, and pass 4 does not count them.
        due.sentence("pass 1", "A record of kind 0: all numbers, runs, entries become 0");
        ImageChecker x = Volume.rootWith(8).set(3, 0, 2).entry(3, 0, 1, 24, 1).entry(3, 1, 2, 24, 1).check().made();
        due.sameEntries("entries of the folder", x, 3);
        due.same("links of the file in it that is reached", x.about(24, 2), 1);
    }

    private static void rootThatBecomesFull(Due due) {
        due.sentence("pass 3", "if the root has 8 already");
        ImageChecker seven = Volume.rootWith(7).kinds(1, 3, 4).check().made();
        due.same("the eighth comes in", seven.find(8), 3);
        due.same("the ninth goes", seven.about(4, 0), 0);
        Volume all = new Volume();
        for (int file = 2; file <= 24; file++) {
            all.set(file, 0, 1);
        }
        ImageChecker x = all.check().made();
        for (int file = 2; file <= 24; file++) {
            due.same("of 23 files that hang nowhere, file " + file, x.about(file, 0), file <= 9 ? 1 : 0);
        }
        due.same("free files", x.told(1), 15);
        ImageChecker room = Volume.rootWith(8).set(2, 0, 1).entry(1, 3, 4, 30, 1).check().made();
        due.same("one of eight went in pass 2: there is a place", room.find(4), 2);
        due.same("for one", room.about(21, 0), 0);
        ImageChecker in = Volume.rootWith(7).set(2, 0, 2).set(3, 0, 1).entry(2, 0, 9, 3, 1).check().made();
        due.same("what is in the eighth needs no place", in.find(0x0908), 3);
    }

    /** What one check has found of reached and waiting files counts for no later one. */
    private static void checksInARow(Due due) {
        due.sentence("pass 3", "WHAT HANGS NOWHERE.");
        ImageChecker x = new Volume().set(5, 0, 1).hold(5, true).tell(2, 5).check()
            .tell(2, 0).set(6, 0, 1).entry(1, 0, 9, 6, 1).check().made();
        due.same("waited once, then hangs nowhere", x.find(1), 5);
        due.same("nothing waits", x.told(2), 0);
        x.entry(1, 0, 0, 0, 0);
        due.same("reached once, then hangs nowhere: check()", x.check(), 2 + 4);
        due.same("reached once, then hangs nowhere", x.find(2), 6);
    }
}
