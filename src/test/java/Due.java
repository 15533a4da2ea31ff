/** Counts and prints the answers that are not as due, under the sentence that asks for them. */
final class Due {
    private int wrong = 0;
    private int asked = 0;
    private int sentences = 0;
    private int askedBefore = -1;
    private String sentence = "";

    /** Begins the test of a sentence of the document, in the words that stand there. */
    void sentence(String where, String words) {
        endSentence();
        sentences++;
        sentence = where + ", \"" + words + "\": ";
        askedBefore = asked;
        if (!Document.says(words)) {
            tellWrong("does not stand in the document");
        }
    }

    private void endSentence() {
        if (askedBefore == asked) {
            tellWrong("is quoted, but not tested");
        }
    }

    private void tellWrong(String what) {
        wrong++;
        System.out.println(sentence + what);
    }

    void same(String what, long got, long want) {
        asked++;
        if (got != want) {
            tellWrong(what + " answered " + got + ", due is " + want);
        }
    }

    void refuses(String what, Runnable call) {
        asked++;
        String got = "nothing";
        try {
            call.run();
        } catch (RuntimeException e) {
            got = e.getClass().getName();
        }
        if (!got.equals("java.lang.IllegalArgumentException")) {
            tellWrong(what + " threw " + got + ", due is IllegalArgumentException");
        }
    }

    void sameRun(String what, ImageChecker x, int file, int k, int... want) {
        for (int part = 0; part < 3; part++) {
            same(what + ": runOf(" + file + ", " + k + ", " + part + ")", x.runOf(file, k, part), want[part]);
        }
    }

    /** The runs of a file from the first place on, and nothing in the places behind them. */
    void sameRuns(String what, ImageChecker x, int file, int[]... want) {
        for (int k = 0; k < 6; k++) {
            sameRun(what, x, file, k, k < want.length ? want[k] : new int[3]);
        }
    }

    void sameEntry(String what, ImageChecker x, int file, int k, int... want) {
        for (int part = 0; part < 3; part++) {
            same(what + ": entryOf(" + file + ", " + k + ", " + part + ")", x.entryOf(file, k, part), want[part]);
        }
    }

    /** The entries of a folder from the first place on, and nothing in the places behind them. */
    void sameEntries(String what, ImageChecker x, int file, int[]... want) {
        for (int k = 0; k < 8; k++) {
            sameEntry(what, x, file, k, k < want.length ? want[k] : new int[3]);
        }
    }

    /** Compares all numbers of two volumes' tables, each number under the name of its call. */
    void sameTables(String what, Volume got, Volume want) {
        sameNumbers(what, got.numbers(), want.numbers());
    }

    void sameNumbers(String what, int[] got, int[] want) {
        for (int i = 0; i < Volume.NUMBERS; i++) {
            // Millions are compared, so a name is written only for one that is wrong.
            same(got[i] == want[i] ? what : what + ": " + Volume.nameOf(i), got[i], want[i]);
        }
    }

    /** Ends the test: exit code 1 if an answer was wrong, or if none was asked for. */
    void end(String test) {
        endSentence();
        System.out.println(test + ": " + sentences + " sentences, " + asked + " answers, " + wrong + " wrong");
        if (wrong != 0 || asked == 0) {
            System.exit(1);
        }
    }
}
