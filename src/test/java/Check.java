/** Counts and prints the answers that are not the ones that are due. */
final class Check {
    private int asked;
    private int wrong;
    private String sentence = "";

    /** Names the sentence of the document that the next answers are due by. */
    void sentence(String words) {
        sentence = "\"" + words + "\": ";
    }

    void due(String call, long want, long got) {
        asked++;
        if (got != want) {
            tell(call, String.valueOf(got), String.valueOf(want));
        }
    }

    void due(String call, boolean want, boolean got) {
        asked++;
        if (got != want) {
            tell(call, String.valueOf(got), String.valueOf(want));
        }
    }

    void due(String call, String want, String got) {
        asked++;
        if (!want.equals(got)) {
            tell(call, got, want);
        }
    }

    /** The exception must be of just this class: a class under it is another one to the caller. */
    void refuses(String call, Class<? extends RuntimeException> want, Runnable action) {
        due(call, want.getName(), thrownBy(action));
    }

    private static String thrownBy(Runnable action) {
        try {
            action.run();
        } catch (RuntimeException e) {
            return e.getClass().getName();
        }
        return "no exception";
    }

    private void tell(String call, String got, String want) {
        wrong++;
        System.out.println(sentence + call + ": answered " + got + ", due is " + want);
    }

    void end() {
        System.out.println(asked + " answers looked at, " + wrong + " not as due");
        if (wrong != 0) {
            System.exit(1);
        }
    }
}
