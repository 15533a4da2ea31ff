/** "What it is": 512 calls on one object, and tables that are kept as they are. */
public final class UseTest {
    public static void main(String[] args) {
        Due due = new Due();
        manyCalls(due);
        manyChecks(due);
        manyRefusals(due);
        manyChanges(due);
        changesNothing(due);
        keeps(due);
        due.end("UseTest");
    }

    private static void manyCalls(Due due) {
        due.sentence("What it is", "An object is used for at most 512 calls after it has been made");
        for (int last = 1; last <= 4; last++) {
            ImageChecker x = Volume.hung(2, 3000).run(2, 0, 0, 3, 20).made();
            for (int call = 4; call < Volume.CALLS_OF_OBJECT - last; call++) {
                due.same("call " + call, x.about(2, 1), 3000);
            }
            due.same("call " + (Volume.CALLS_OF_OBJECT - last) + ", check()", x.check(), 8 + 16);
            for (int call = Volume.CALLS_OF_OBJECT - last + 1; call <= Volume.CALLS_OF_OBJECT; call++) {
                due.same("call " + call + ", told(0)", x.told(0), 189);
            }
        }
    }

    private static void manyChecks(Due due) {
        due.sentence("What it is", "at most 512 calls");
        ImageChecker whole = new ImageChecker();
        for (int call = 1; call <= 512; call++) {
            due.same("check() as call " + call, whole.check(), 0);
        }
        ImageChecker x = new ImageChecker();
        for (int call = 1; call <= 512; call += 2) {
            x.set(24, 0, 1);
            due.same("check() as call " + (call + 1), x.check(), call == 1 ? 4 + 8 + 16 : 0);
        }
        ImageChecker y = new ImageChecker();
        for (int call = 1; call + 3 <= 512; call += 4) {
            y.set(24, 0, 1);
            due.same("check() as call " + (call + 1), y.check(), 4 + 8 + 16);
            due.same("find() as call " + (call + 2), y.find(1), 24);
            y.clear();
        }
    }

    private static void manyRefusals(Due due) {
        due.sentence("What it is", "An object is used for at most 512 calls");
        ImageChecker x = new ImageChecker();
        for (int call = 1; call <= 510; call++) {
            due.refuses("call " + call, () -> x.set(25, 0, 1));
        }
        due.same("check() as call 511", x.check(), 0);
        due.same("told(1) as call 512", x.told(1), 23);
    }

    private static void manyChanges(Due due) {
        due.sentence("What it is", "used for at most 512 calls after it has been made");
        ImageChecker x = new ImageChecker();
        for (int call = 1; call <= 509; call++) {
            x.run(2 + call % 23, call % 6, call, -call, Integer.MAX_VALUE - call);
        }
        due.same("what call 509 put in, read by call 510", x.runOf(2 + 509 % 23, 509 % 6, 0), 509);
        due.same("check() as call 511", x.check(), 1);
        due.same("check() as call 512", x.check(), 0);
    }

    private static void changesNothing(Due due) {
        due.sentence("What it is", "changes nothing in tables that are whole");
        due.sameTables("a new object", new Volume().check(), new Volume());
        due.sameTables("all that can be in tables", Volume.full().check(), Volume.full());
    }

    private static void keeps(Due due) {
        due.sentence("What it is", "keeps what nothing contradicts");
        Volume lost = Volume.full().tell(0, -1).bit(0, 1, false).set(20, 0, 99).entry(4, 7, 300, 2, 2).check();
        due.sameTables("what is right beside what is wrong", lost, Volume.full());
    }
}
