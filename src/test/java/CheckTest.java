/** Promise 9, a test for each part of its sentence; the passes have tests of their own. */
public final class CheckTest {
    public static void main(String[] args) {
        Due due = new Due();
        wholeTables(due);
        onePassAlone(due);
        sums(due);
        checkBehindCheck(due);
        due.end("CheckTest");
    }

    private static void wholeTables(Due due) {
        due.sentence("promise 9", "0 for whole tables");
        due.same("new: check()", new Volume().checked(), 0);
        due.sameTables("new, checked", new Volume().check(), new Volume());
        due.same("cleared: check()", new Volume().set(9, 0, 9).clear().checked(), 0);
        due.same("full: check()", Volume.full().checked(), 0);
        due.sameTables("full, checked", Volume.full().check(), Volume.full());
    }

    /** From whole tables, one number that is wrong for one pass; it comes back to what it was. */
    private static void onePassAlone(Due due) {
        due.sentence("promise 9", "1, 2, 4, 8, 16 for those of passes 1, 2, 3, 4, 5 in which something was mended");
        once(due, "pass 1, a run behind the others", 1, Volume.full().run(7, 3, 0, 0, 5));
        once(due, "pass 1, a kind that can't be", 1, Volume.full().set(20, 0, 4));
        once(due, "pass 1, a number of no file", 1, Volume.full().set(20, 4, 1));
        once(due, "pass 1, an entry of no folder", 1, Volume.full().entry(3, 2, 1, 2, 2));
        once(due, "pass 2, an entry that leads to nothing", 2, Volume.full().entry(2, 4, 99, 20, 1));
        once(due, "pass 2, an entry's kind", 2, Volume.full().entry(2, 1, 8, 3, 2));
        once(due, "pass 2, a place between entries", 2, Volume.full().entry(2, 1, 0, 0, 0).entry(2, 2, 8, 3, 1));
        once(due, "pass 4, links", 8, Volume.full().set(3, 2, 2));
        once(due, "pass 4, parent", 8, Volume.full().set(4, 4, 1));
        once(due, "pass 4, behind", 8, Volume.full().set(5, 3, 7));
        once(due, "pass 4, the first one that waits", 8, Volume.full().tell(2, 3).set(3, 3, 7));
        once(due, "pass 5, a block's bit", 16, Volume.full().bit(0, 150, true));
        once(due, "pass 5, a fixed block's bit", 16, Volume.full().bit(0, 8, false));
        once(due, "pass 5, a file's bit", 16, Volume.full().bit(1, 1, false));
        once(due, "pass 5, free blocks", 16, Volume.full().tell(0, 0));
        once(due, "pass 5, free files", 16, Volume.full().tell(1, Integer.MIN_VALUE));
        Volume lost = lostFile(Volume.full());
        due.same("pass 3, a file that hangs nowhere: check()", lost.checked(), 4);
        due.sameTables("pass 3, a file that hangs nowhere", lost, lostFile(Volume.full()).entry(1, 4, 1, 9, 1));
        due.same("pass 3, again: check()", lost.checked(), 0);
    }

    /** It has all other numbers right, so that it is found by pass 3 alone. */
    private static Volume lostFile(Volume v) {
        return v.record(9, 1, 0, 1, 0, 0).bit(1, 9, true).tell(1, 24 - 8);
    }

    private static void once(Due due, String what, int answer, Volume v) {
        due.same(what + ": check()", v.checked(), answer);
        due.sameTables(what, v, Volume.full());
        due.same(what + ", again: check()", v.checked(), 0);
    }

    private static void sums(Due due) {
        due.sentence("promise 9", "All five passes: the sum of 1, 2, 4, 8, 16");
        for (int sum = 0; sum <= 31; sum++) {
            Volume v = Volume.full();
            if ((sum & 1) != 0) {
                v.run(7, 3, 0, 0, 5);
            }
            if ((sum & 2) != 0) {
                v.entry(2, 1, 8, 3, 2);
            }
            if ((sum & 4) != 0) {
                lostFile(v);
            }
            if ((sum & 8) != 0) {
                v.set(4, 4, 1);
            }
            if ((sum & 16) != 0) {
                v.tell(0, 0);
            }
            due.same("check()", v.checked(), sum);
            due.same("again: check()", v.checked(), 0);
        }
        Volume one = new Volume().set(1, 0, 0).set(2, 0, 2).entry(2, 0, 1, 1, 2);
        due.same("all passes from one root: check()", one.checked(), 31);
        due.sameTables("all passes from one root", one, new Volume().set(1, 2, 3).record(2, 2, 0, 2, 0, 1)
            .entry(1, 0, 1, 2, 2).bit(1, 2, true).tell(1, 22));
    }

    /** No answer of a check depends on what an earlier one found. */
    private static void checkBehindCheck(Due due) {
        due.sentence("promise 9", "in which something was mended; 0 for whole tables");
        Volume v = Volume.full();
        for (int i = 0; i < 3; i++) {
            due.same("a wrong number behind a check: check()", v.set(3, 2, 99).checked(), 8);
            due.same("nothing behind it: check()", v.checked(), 0);
            due.same("another one: check()", v.bit(0, 9, false).checked(), 16);
            due.sameTables("all is as it was", v, Volume.full());
        }
    }
}
