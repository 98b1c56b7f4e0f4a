/** Two grinders after the same calls: what one more call does to one of them shows beside the other. */
final class Twins {
    private static final int HISTORY_MOST = 4;

    interface Recipe {
        void on(DriftGrinders x);
    }

    interface Call {
        int on(DriftGrinders x);
    }

    private Twins() {
    }

    static DriftGrinders made(Recipe recipe) {
        DriftGrinders x = new DriftGrinders();
        recipe.on(x);
        return x;
    }

    /** For errors and for what only asks: the answer is due, and nothing is another behind it. */
    static void leavesAll(String name, int want, Recipe recipe, Call call) {
        DriftGrinders x = made(recipe);
        DriftGrinders y = made(recipe);
        Due.due(name, want, call.on(x));
        dueSameText(name, y, x);
        Due.due(name + ": states", y.count(10), x.count(10));
        dueSameState(name, y, x);
        dueSameHistory(name, y, x, HISTORY_MOST);
    }

    /** For what changes: one state more, which undo brings back, and of five the oldest one is gone. */
    static void isOneChange(String name, int want, Recipe recipe, Call call) {
        DriftGrinders x = made(recipe);
        DriftGrinders y = made(recipe);
        int statesThen = Math.min(HISTORY_MOST, y.count(10) + 1);
        Due.due(name, want, call.on(x));
        Due.due(name + ": states", statesThen, x.count(10));
        Due.due(name + ", undo()", statesThen - 1, x.undo());
        dueSameText(name + ", undo()", y, x);
        dueSameState(name + ", undo()", y, x);
        dueSameHistory(name + ", undo()", y, x, statesThen - 1);
        Due.due(name + ": no other state", Due.NOT_POSSIBLE, x.undo());
    }

    private static void dueSameText(String name, DriftGrinders y, DriftGrinders x) {
        Due.due(name + ": the text's length", y.count(11), x.count(11));
        for (int what = 0; what < 3; what++) {
            Due.due(name + ": then fault(" + what + ")", y.fault(what), x.fault(what));
        }
    }

    private static void dueSameState(String name, DriftGrinders y, DriftGrinders x) {
        Due.due(name + ": all facts alike", 1, Facts.of(y).equals(Facts.of(x)) ? 1 : 0);
    }

    private static void dueSameHistory(String name, DriftGrinders y, DriftGrinders x, int states) {
        for (int i = 0; i < states && y.count(10) > 0; i++) {
            y.undo();
            x.undo();
            dueSameState(name + ": history, state " + i, y, x);
        }
    }
}
