/** What is due of a run of calls: tells every answer that is not the one that is due. */
final class Due {
    static final int INVALID = DriftGrinders.INVALID_ARGUMENT;
    static final int NOT_POSSIBLE = DriftGrinders.NOT_POSSIBLE;
    static final int LIMIT = DriftGrinders.LIMIT_REACHED;
    static final int NOT_FOUND = DriftGrinders.NOT_FOUND;

    private static final int TOLD_MOST = 50;
    private static int wrong = 0;
    private static int asked = 0;

    private Due() {
    }

    static void due(String call, long want, long got) {
        asked++;
        if (got != want) {
            wrong++;
            if (wrong <= TOLD_MOST) {
                System.out.println(call + " answered " + got + ", due is " + want);
            }
        }
    }

    static boolean anyWrong() {
        return wrong > 0;
    }

    /** Ends a test: with exit code 1 if any answer was wrong, or if nothing was asked. */
    static void end() {
        System.out.println(asked + " answers, " + wrong + " of them wrong");
        if (wrong > 0 || asked == 0) {
            System.exit(1);
        }
    }

    static void write(DriftGrinders x, String text) {
        for (int i = 0; i < text.length(); i++) {
            x.type(text.charAt(i));
        }
    }

    /** Writes a text in place of the one that is there. */
    static void rewrite(DriftGrinders x, String text) {
        x.clearText();
        write(x, text);
    }
}
