/** Promise 9: whole tables, the five passes' numbers in the sum, and checking again. */
public final class CheckTest {
    public static void main(String[] args) {
        Due due = new Due();
        wholeTables(due);
        onePassEach(due);
        allPasses(due);
        due.end("CheckTest");
    }

    /** Whole tables with all that can be in them: the answer is 0, and nothing changes. */
    static Volume fullVolume() {
        return new Volume()
            .set(1, 2, 3).set(1, 1, 1024).run(1, 0, 0, 1, 9)
            .entry(1, 0, 200, 2, 2).entry(1, 1, 7, 3, 1).entry(1, 2, 8, 3, 1).entry(1, 3, 9, 6, 3)
            .record(2, 2, 0, 3, 0, 1).entry(2, 0, 7, 4, 2).entry(2, 1, 8, 3, 1)
            .record(3, 1, 65536, 3, 0, 0)
            .run(3, 0, 0, 10, 191).run(3, 1, 10, 2, 20).run(3, 2, 30, 1, 19).run(3, 3, 40, 1, 18)
            .run(3, 4, 50, 1, 17).run(3, 5, 61, 3, 100)
            .record(4, 2, 5, 2, 0, 2)
            .record(6, 3, 1, 1, 0, 0).run(6, 0, 0, 1, 10)
            .record(7, 1, 2048, 0, 5, 0).run(7, 0, 1, 1, 11).hold(7, true)
            .record(5, 3, 0, 0, 0, 0).hold(5, true)
            .tell(2, 7)
            .bits(0, 9, 11).bits(0, 17, 21).bits(0, 100, 102).bits(0, 191, 200).bits(1, 1, 7)
            .tell(0, 192 - 21).tell(1, 24 - 7);
    }

    private static void wholeTables(Due due) {
        due.same("new: check()", new Volume().checked(), 0);
        due.sameTables("new, checked", new Volume().check(), new Volume());
        due.same("full: check()", fullVolume().checked(), 0);
        due.sameTables("full, checked", fullVolume().check(), fullVolume());
        due.same("full: check() again", fullVolume().check().checked(), 0);
    }

    /** From whole tables, one number that is wrong for one pass; it comes back to what it was. */
    private static void onePassEach(Due due) {
        once(due, "pass 1, a run behind the others", 1, fullVolume().run(7, 3, 0, 0, 5));
        once(due, "pass 1, a kind that can't be", 1, fullVolume().set(20, 0, 4));
        once(due, "pass 1, a number of no file", 1, fullVolume().set(20, 4, 1));
        once(due, "pass 1, an entry of no folder", 1, fullVolume().entry(3, 2, 1, 2, 2));
        once(due, "pass 2, an entry that leads to nothing", 2, fullVolume().entry(2, 4, 99, 20, 1));
        once(due, "pass 2, an entry's kind", 2, fullVolume().entry(2, 1, 8, 3, 2));
        once(due, "pass 4, links", 8, fullVolume().set(3, 2, 2));
        once(due, "pass 4, parent", 8, fullVolume().set(4, 4, 1));
        once(due, "pass 4, behind", 8, fullVolume().set(5, 3, 7));
        once(due, "pass 5, a block's bit", 16, fullVolume().bit(0, 150, true));
        once(due, "pass 5, a fixed block's bit", 16, fullVolume().bit(0, 8, false));
        once(due, "pass 5, a file's bit", 16, fullVolume().bit(1, 1, false));
        once(due, "pass 5, free blocks", 16, fullVolume().tell(0, 0));
        once(due, "pass 5, free files", 16, fullVolume().tell(1, Integer.MIN_VALUE));
        // A file that hangs nowhere and has all other numbers right is found by pass 3 alone.
        Volume lost = fullVolume().record(9, 1, 0, 1, 0, 0).bit(1, 9, true).tell(1, 24 - 8);
        due.same("pass 3, a file that hangs nowhere: check()", lost.checked(), 4);
        due.same("pass 3, again: check()", lost.checked(), 0);
        due.same("pass 3, its entry", lost.made().find(1), 9);
    }

    private static void once(Due due, String what, int answer, Volume v) {
        due.same(what + ": check()", v.checked(), answer);
        due.sameTables(what, v, fullVolume());
        due.same(what + ", again: check()", v.checked(), 0);
    }

    private static void allPasses(Due due) {
        Volume v = new Volume().set(1, 0, 0).set(2, 0, 2).entry(2, 0, 1, 1, 2);
        due.same("all passes: check()", v.checked(), 31);
        Volume want = new Volume().set(1, 2, 3).record(2, 2, 0, 2, 0, 1).entry(1, 0, 1, 2, 2)
            .bit(1, 2, true).tell(1, 22);
        due.sameTables("all passes", v, want);
        due.same("all passes, again: check()", v.checked(), 0);
        due.same("passes count by what they leave, not by steps: a file that goes at once",
            new Volume().set(9, 0, -1).checked(), 1);
    }
}
