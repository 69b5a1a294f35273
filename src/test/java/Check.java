/** Prints every answer that is not the one that is due, and ends the test with exit code 1 if there was one. */
final class Check {
    private final String test;
    private String sentence = "";
    private int looked = 0;
    private int wrong = 0;

    Check(String test) {
        this.test = test;
    }

    /** Names the document's words that the answers from here on are due by. */
    void about(String words) {
        sentence = "[" + words + "] ";
    }

    void due(String call, long got, long want) {
        looked++;
        if (got != want) {
            tell(call + " answered " + got + ", due is " + want);
        }
    }

    void due(String call, boolean got, boolean want) {
        due(call, got ? 1 : 0, want ? 1 : 0);
    }

    void due(String call, String got, String want) {
        looked++;
        if (!got.equals(want)) {
            tell(call + " answered " + got + ", due is " + want);
        }
    }

    void throwsDue(String call, Class<? extends RuntimeException> want, Runnable run) {
        due(call, outcome(run), want.getSimpleName());
    }

    void nothingThrown(String call, Runnable run) {
        due(call, outcome(run), "nothing");
    }

    void end() {
        System.out.println(test + ": " + looked + " answers looked at, " + wrong + " wrong");
        if (wrong != 0) {
            System.exit(1);
        }
    }

    private static String outcome(Runnable run) {
        try {
            run.run();
            return "nothing";
        } catch (RuntimeException e) {
            return e.getClass().getSimpleName();
        }
    }

    private void tell(String text) {
        wrong++;
        System.out.println(test + ": " + sentence + text);
    }
}
