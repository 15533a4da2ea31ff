/** Counts and prints the answers that are not as due. */
final class Due {
    private int wrong = 0;
    private int asked = 0;

    void same(String what, long got, long want) {
        asked++;
        if (got != want) {
            wrong++;
            System.out.println(what + " answered " + got + ", due is " + want);
        }
    }

    void refuses(String what, Runnable call) {
        asked++;
        String got = "nothing";
        try {
            call.run();
        } catch (RuntimeException e) {
            got = e.getClass().getName();
        }
        if (!got.equals("java.lang.IllegalArgumentException")) {
            wrong++;
            System.out.println(what + " threw " + got + ", due is IllegalArgumentException");
        }
    }

    void sameRun(String what, ImageChecker x, int file, int k, int... want) {
        for (int part = 0; part < 3; part++) {
            same(what + ": runOf(" + file + ", " + k + ", " + part + ")", x.runOf(file, k, part), want[part]);
        }
    }

    void sameEntry(String what, ImageChecker x, int file, int k, int... want) {
        for (int part = 0; part < 3; part++) {
            same(what + ": entryOf(" + file + ", " + k + ", " + part + ")", x.entryOf(file, k, part), want[part]);
        }
    }

    /** Compares all numbers of two volumes' tables, each number under the name of its call. */
    void sameTables(String what, Volume got, Volume want) {
        sameNumbers(what, got.numbers(), want.numbers());
    }

    void sameNumbers(String what, int[] got, int[] want) {
        for (int i = 0; i < Volume.NUMBERS; i++) {
            // Millions are compared, so a name is written only for one that is wrong.
            same(got[i] == want[i] ? what : what + ": " + Volume.nameOf(i), got[i], want[i]);
        }
    }

    /** Ends the test: exit code 1 if an answer was wrong, or if none was asked for. */
    void end(String test) {
        System.out.println(test + ": " + asked + " answers, " + wrong + " wrong");
        if (wrong != 0 || asked == 0) {
            System.exit(1);
        }
    }
}
