/**
 * "The changes are the calls of fill, grind, dial, rest, shot, purge, correct, set and play that return no
 * error. A history of at most 4 states is kept: each change records everything before it but the text, and if
 * there are 5 states then, the oldest one is dropped."
 */
public final class HistoryTest {
    private HistoryTest() {
    }

    public static void main(String[] args) {
        firstChange();
        for (int states = 1; states <= 6; states++) {
            eachChangeIsOne(states);
        }
        changesToTheSame();
        playIsOneChange();
        fifthStateDropsTheOldest();
        fiveOrdersAreOneState();
        undoIsNoChange();
        undoToTheBeginning();
        textIsNotRecorded();
        typingIsNoChange();
        countsAreRestored();
        accountsOfManyCalls();
        eachStateIsItsOwn();
        shotsComeBack();
        shotNumbersAreGivenAgain();
        Due.end();
    }

    /** Beans in hopper, chute and basket, a shot, and then states up to as many as told, 4 at most. */
    private static Twins.Recipe withStates(int states) {
        return x -> {
            Due.write(x, "f0,200;f1,200;g0,100;s;g1,90;");
            x.play();
            Due.rewrite(x, "w3;p;");
            for (int tolerance = 1; tolerance < states; tolerance++) {
                x.set(1, tolerance);
            }
        };
    }

    private static void eachChangeIsOne(int states) {
        Twins.Recipe recipe = withStates(states);
        String with = ", " + states + " changes ahead of it";
        Twins.isOneChange("2: fill" + with, 219, recipe, x -> x.fill(0, 9));
        Twins.isOneChange("3: grind" + with, 30, recipe, x -> x.grind(1, 30));
        Twins.isOneChange("4: dial" + with, 30, recipe, x -> x.dial(0, 7));
        Twins.isOneChange("5: rest" + with, 21 + 22, recipe, x -> x.rest(999));
        Twins.isOneChange("6: shot" + with, 300, recipe, DriftGrinders::shot);
        Twins.isOneChange("7: purge" + with, 40, recipe, DriftGrinders::purge);
        Twins.isOneChange("8: correct" + with, 32, recipe, x -> x.correct(1));
        Twins.isOneChange("9: set" + with, 280, recipe, x -> x.set(0, 600));
        Twins.isOneChange("24: play" + with, 2, recipe, DriftGrinders::play);
    }

    /** The first change of an object. */
    private static void firstChange() {
        Twins.Recipe nothing = x -> Due.write(x, "w3;p;");
        Twins.isOneChange("2: fill, new", 9, nothing, x -> x.fill(0, 9));
        Twins.isOneChange("4: dial, new", 30, nothing, x -> x.dial(0, 7));
        Twins.isOneChange("5: rest, new", 0, nothing, x -> x.rest(999));
        Twins.isOneChange("7: purge, new", 0, nothing, DriftGrinders::purge);
        Twins.isOneChange("9: set, new", 280, nothing, x -> x.set(0, 600));
        Twins.isOneChange("24: play, new", 2, nothing, DriftGrinders::play);
    }

    /** A call that returns no error is a change, also if all is as it was. */
    private static void changesToTheSame() {
        Twins.isOneChange("4: the same dial", 30, x -> x.rest(1), x -> x.dial(0, 30));
        Twins.isOneChange("9: the same value", 0, x -> x.rest(1), x -> x.set(5, 0));
        Twins.isOneChange("7: an empty chute", 0, x -> x.rest(1), DriftGrinders::purge);
        Twins.isOneChange("8: to the same dial", 60, x -> {
            x.fill(0, 41);
            x.grind(0, 41);
            x.shot();
            x.dial(1, 60);
        }, x -> x.correct(1));
    }

    private static void playIsOneChange() {
        Twins.isOneChange("24: no orders", 0, x -> x.rest(1), DriftGrinders::play);
        Twins.isOneChange("24: one order", 1, x -> Due.write(x, "w1;"), DriftGrinders::play);
        Twins.isOneChange("24: six orders", 6, x -> Due.write(x, "w1;w2;p;f0,9;g1,4;b0,5;"), DriftGrinders::play);
    }

    private static void fifthStateDropsTheOldest() {
        DriftGrinders x = new DriftGrinders();
        for (int change = 1; change <= 5; change++) {
            x.rest(change);
            Due.due("states behind " + change + " changes", Math.min(4, change), x.count(10));
        }
        int[] seconds = {10, 6, 3, 1};
        for (int i = 0; i < seconds.length; i++) {
            Due.due("states left", 3 - i, x.undo());
            Due.due("the second then", seconds[i], x.count(0));
        }
        Due.due("the first state was dropped", Due.NOT_POSSIBLE, x.undo());
        Due.due("the second stays", 1, x.count(0));
    }

    private static void fiveOrdersAreOneState() {
        DriftGrinders x = new DriftGrinders();
        x.rest(1);
        x.rest(1);
        x.rest(1);
        Due.write(x, "w1;w1;w1;w1;w1;w1;");
        x.play();
        Due.due("four states", 4, x.count(10));
        Due.due("the play is undone", 3, x.undo());
        Due.due("as before it", 3, x.count(0));
    }

    private static void undoIsNoChange() {
        DriftGrinders x = new DriftGrinders();
        x.rest(1);
        x.rest(2);
        Due.due("undo()", 1, x.undo());
        Due.due("it records nothing", 1, x.count(10));
        Due.due("undo()", 0, x.undo());
        Due.due("it records nothing", 0, x.count(10));
        x.rest(4);
        Due.due("a change behind it", 1, x.count(10));
        Due.due("undo of that", 0, x.undo());
        Due.due("the state it was made from", 0, x.count(0));
    }

    private static void undoToTheBeginning() {
        DriftGrinders x = new DriftGrinders();
        String atFirst = Facts.of(x);
        x.set(5, 1);
        x.fill(1, 200);
        x.grind(1, 100);
        x.shot();
        for (int left = 3; left >= 0; left--) {
            Due.due("states left", left, x.undo());
        }
        Due.due("as at first", 1, atFirst.equals(Facts.of(x)) ? 1 : 0);
        Due.due("no state left", Due.NOT_POSSIBLE, x.undo());
        Due.due("as at first still", 1, atFirst.equals(Facts.of(x)) ? 1 : 0);
    }

    private static void textIsNotRecorded() {
        DriftGrinders x = new DriftGrinders();
        Due.write(x, "w5;");
        x.play();
        Due.write(x, "p;");
        x.undo();
        Due.due("what was typed stays", 5, x.count(11));
        Due.due("and is played", 2, x.play());
        x.clearText();
        x.undo();
        Due.due("what was cleared does not come back", 0, x.count(11));
    }

    private static void typingIsNoChange() {
        DriftGrinders x = new DriftGrinders();
        x.rest(1);
        Due.write(x, "w5;");
        x.clearText();
        Due.write(x, "w6;");
        x.fault(0);
        Due.due("one state", 1, x.count(10));
        Due.due("undo of the rest", 0, x.undo());
    }

    private static void countsAreRestored() {
        DriftGrinders x = new DriftGrinders();
        x.fill(0, 200);
        x.grind(0, 100);
        x.shot();
        x.purge();
        int[] behind = {40, 200, 100, 60, 40, 100, 0, 0, 1, 1};
        for (int what = 0; what < behind.length; what++) {
            Due.due("count(" + what + ")", behind[what], x.count(what));
        }
        x.undo();
        x.undo();
        int[] ahead = {10, 200, 100, 0, 0, 100, 40, 60, 0, 0};
        for (int what = 0; what < ahead.length; what++) {
            Due.due("count(" + what + "), undone", ahead[what], x.count(what));
        }
    }

    /** "so far" is of all calls together, and undo brings back what it was. */
    private static void accountsOfManyCalls() {
        DriftGrinders x = new DriftGrinders();
        int[] behindTwo = accountsBehind(x, 2);
        int[] due = {200, 90, 22, 68};
        for (int i = 0; i < due.length; i++) {
            Due.due("behind two rounds, count(" + (i + 1) + ")", due[i], behindTwo[i]);
        }
        Due.due("by burr 1", 90, x.burrOf(1, 3));
        for (int what = 1; what <= 4; what++) {
            DriftGrinders y = new DriftGrinders();
            accountsBehind(y, 2);
            y.fill(0, 50);
            y.grind(0, 41);
            y.shot();
            y.purge();
            Due.due("more than before", 1, y.count(what) > due[what - 1] ? 1 : 0);
            for (int left = 3; left >= 0; left--) {
                y.undo();
            }
            Due.due("undone, count(" + what + ")", due[what - 1], y.count(what));
        }
    }

    private static int[] accountsBehind(DriftGrinders x, int rounds) {
        x.set(2, 34);
        for (int i = 0; i < rounds; i++) {
            x.fill(i % 2, 100);
            x.grind(1, 45);
            x.shot();
            x.purge();
        }
        return new int[] {x.count(1), x.count(2), x.count(3), x.count(4)};
    }

    /** States that came back by undo and those that are recorded then do not change one another. */
    private static void eachStateIsItsOwn() {
        for (int undone = 1; undone <= 4; undone++) {
            DriftGrinders x = new DriftGrinders();
            for (int i = 0; i < 6; i++) {
                x.rest(1);
            }
            for (int i = 0; i < undone; i++) {
                x.undo();
            }
            int second = x.count(0);
            Due.due("seconds left", 6 - undone, second);
            for (int i = 1; i <= 6; i++) {
                x.rest(10);
                x.wouldTake(0, 1);
                x.play();
            }
            Due.due("twelve changes", second + 60, x.count(0));
            int[] tens = {60, 50, 50, 40};
            for (int left = 3; left >= 0; left--) {
                Due.due("undo", left, x.undo());
                Due.due("the second then", second + tens[3 - left], x.count(0));
            }
        }
    }

    /** Of thirteen shots the first one is not kept: with the thirteenth undone it is there again. */
    private static void shotsComeBack() {
        DriftGrinders x = Made.ofShots(12);
        x.grind(0, 1);
        x.shot();
        Due.due("the first one is gone", 1, x.shotOf(11, 0));
        x.undo();
        Due.due("it is there again", 0, x.shotOf(11, 0));
        Due.due("the latest one", 11, x.shotOf(0, 0));
        Due.due("so many", 12, x.count(8));
    }

    private static void shotNumbersAreGivenAgain() {
        DriftGrinders x = Made.ofShots(2);
        x.undo();
        Due.due("one shot", 1, x.count(8));
        x.shot();
        Due.due("the number is given again", 1, x.shotOf(0, 0));
        Due.due("two shots", 2, x.count(8));
    }
}
