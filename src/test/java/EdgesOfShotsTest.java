/** The boundary cases of the sections Shots and Settings, a test for each sentence. */
public final class EdgesOfShotsTest {
    private EdgesOfShotsTest() {
    }

    public static void main(String[] args) {
        shots();
        corrections();
        settings();
        Due.end();
    }

    private static void shots() {
        flowRoundedDown();
        flowFromLeastToMost();
        timeRoundedDown();
        burrZeroIfBothAreAlike();
        kindZeroIfBothAreAlike();
        basketIsEmptyThen();
        secondsByATenthOfTheTimeRoundedDown();
        numberedFromZero();
        twelveAreKept();
        purgingTakesAllPortions();
    }

    private static void corrections() {
        halfOfTheTargetRoundedDown();
        correctedDialRoundedDown();
        correctedToOneAtLeast();
        correctedToSixtyAtMost();
        awayByTheToleranceIsNotCorrected();
        tooFastIsCorrectedToo();
        noToleranceAtAll();
        bySetting5Alone();
        ownBurrOfBothAlikeIsZero();
    }

    private static void settings() {
        rangesAndFirstValues();
        settingsAreIndependent();
    }

    // ---- "A portion has a flow: the hardness of its kind (setting 3 or 4 as it is now) times 1000, divided
    // by its gap, rounded down."

    private static void flowRoundedDown() {
        DriftGrinders x = Made.filled(0, 1);
        x.fill(1, 1);
        x.grind(0, 2);
        x.set(3, 89);
        Due.due("89000 / 300", 296, x.portionOf(0, 0, 4));
        x.set(3, 91);
        Due.due("91000 / 300", 303, x.portionOf(0, 0, 4));
        x.set(4, 299);
        Due.due("299000 / 300", 996, x.portionOf(0, 1, 4));
    }

    private static void flowFromLeastToMost() {
        DriftGrinders x = Made.filled(0, 2);
        x.dial(0, 60);
        x.grind(0, 1);
        x.dial(0, 1);
        x.grind(0, 1);
        x.set(3, 30);
        Due.due("30000 / 600", 50, x.portionOf(0, 0, 4));
        Due.due("30000 / 10", 3000, x.portionOf(0, 1, 4));
        x.set(3, 300);
        Due.due("300000 / 600", 500, x.portionOf(0, 0, 4));
        Due.due("300000 / 10", 30000, x.portionOf(0, 1, 4));
    }

    // ---- "its time is the sum of the amounts times the flows of all portions, divided by the amount
    // altogether, rounded down; its burr is the one by which most of it was ground (burr 0 if both are
    // alike), its kind that of which it has most (kind 0 if both are alike)."

    private static void timeRoundedDown() {
        DriftGrinders x = Made.withoutChute();
        x.fill(0, 1);
        x.fill(1, 2);
        x.set(4, 93);
        x.grind(0, 3);
        Due.due("(300 + 2 * 310) / 3", 306, x.shot());
        DriftGrinders y = Made.withoutChute();
        y.fill(0, 400);
        y.set(3, 300);
        y.dial(0, 1);
        y.grind(0, 400);
        Due.due("the longest time", 30000, y.shot());
        Due.due("its seconds", 3040, y.count(0));
    }

    private static DriftGrinders groundByBoth(int byBurr0, int byBurr1) {
        DriftGrinders x = Made.withoutChute();
        x.fill(1, byBurr1);
        x.fill(0, byBurr0);
        x.grind(1, byBurr1);
        x.grind(0, byBurr0);
        x.shot();
        return x;
    }

    private static void burrZeroIfBothAreAlike() {
        Due.due("alike", 0, groundByBoth(20, 20).shotOf(0, 3));
        Due.due("one more by burr 1", 1, groundByBoth(20, 21).shotOf(0, 3));
        Due.due("one more by burr 0", 0, groundByBoth(21, 20).shotOf(0, 3));
        DriftGrinders x = Made.withoutChute();
        x.fill(0, 30);
        x.grind(1, 1);
        x.grind(1, 1);
        x.grind(0, 3);
        x.shot();
        Due.due("more portions by burr 1, but less", 0, x.shotOf(0, 3));
    }

    private static void kindZeroIfBothAreAlike() {
        Due.due("alike", 0, groundByBoth(20, 20).shotOf(0, 4));
        Due.due("one more of kind 1", 1, groundByBoth(20, 21).shotOf(0, 4));
        Due.due("one more of kind 0", 0, groundByBoth(21, 20).shotOf(0, 4));
        DriftGrinders x = Made.withoutChute();
        x.fill(1, 2);
        x.fill(0, 3);
        x.grind(0, 1);
        x.grind(0, 1);
        x.grind(1, 3);
        x.shot();
        Due.due("more portions of kind 1, but less", 0, x.shotOf(0, 4));
    }

    // ---- "The basket is empty then, and as many seconds pass as a tenth of the time, rounded down. Shots
    // are numbered from 0; the latest 12 are kept."

    private static void basketIsEmptyThen() {
        DriftGrinders x = Made.filled(0, 100);
        x.grind(0, 41);
        Due.due("a shot of 1", 300, x.shot());
        Due.due("the basket is empty", 0, x.count(7));
        Due.due("it has no portion", Due.NOT_FOUND, x.portionOf(1, 0, 0));
        Due.due("the chute stays", 40, x.count(6));
        Due.due("no shot of nothing", Due.NOT_POSSIBLE, x.shot());
    }

    private static void secondsByATenthOfTheTimeRoundedDown() {
        DriftGrinders x = Made.withoutChute();
        x.fill(0, 100);
        x.dial(0, 31);
        x.set(3, 99);
        x.grind(0, 1);
        Due.due("99000 / 310", 319, x.shot());
        Due.due("31 seconds and 1", 32, x.count(0));
        x.set(3, 93);
        x.grind(0, 1);
        Due.due("93000 / 310", 300, x.shot());
        Due.due("30 seconds and 1", 63, x.count(0));
        x.dial(0, 60);
        x.set(3, 30);
        x.grind(0, 1);
        Due.due("the shortest time", 50, x.shot());
        Due.due("5 seconds and 1", 69, x.count(0));
    }

    private static void numberedFromZero() {
        Due.due("the first shot", 0, Made.ofShots(1).shotOf(0, 0));
        Due.due("the second shot", 1, Made.ofShots(2).shotOf(0, 0));
        Due.due("no shot", Due.NOT_FOUND, Made.ofShots(0).shotOf(0, 0));
    }

    private static void twelveAreKept() {
        Due.due("of eleven, the earliest one", 0, Made.ofShots(11).shotOf(10, 0));
        Due.due("of eleven, no twelfth", Due.NOT_FOUND, Made.ofShots(11).shotOf(11, 0));
        Due.due("of twelve, the earliest one", 0, Made.ofShots(12).shotOf(11, 0));
        Due.due("of thirteen, the earliest one kept", 1, Made.ofShots(13).shotOf(11, 0));
        Due.due("of thirteen, the latest one", 12, Made.ofShots(13).shotOf(0, 0));
        Due.due("no thirteenth is kept", Due.NOT_FOUND, Made.ofShots(13).shotOf(12, 0));
        Due.due("all are counted", 30, Made.ofShots(30).count(8));
        Due.due("of thirty, the earliest one kept", 18, Made.ofShots(30).shotOf(11, 0));
    }

    // ---- "To purge means that all portions of the chute are thrown away."

    private static void purgingTakesAllPortions() {
        DriftGrinders x = Made.ofLots(6);
        x.grind(0, 6);
        Due.due("six portions", 6, x.purge());
        Due.due("none is left", Due.NOT_FOUND, x.portionOf(0, 0, 0));
        Due.due("none to throw away", 0, x.purge());
        x.fill(0, 40);
        Due.due("the chute has all its room again", 0, x.grind(0, 40));
    }

    // ---- "By a correction a burr gets another dial: (its dial times the time of the shot, plus half of the
    // target, rounded down), divided by the target (setting 0), rounded down, but at least 1 and at most 60."

    /** A shot of 300 at dial 30, and then another dial of burr 1 and another target. */
    private static int corrected(int dial, int target) {
        DriftGrinders x = Made.ofShots(1);
        x.dial(1, dial);
        x.set(0, target);
        return x.correct(1);
    }

    private static void halfOfTheTargetRoundedDown() {
        Due.due("(1 * 300 + 100) / 200", 2, corrected(1, 200));
        Due.due("(1 * 300 + 100) / 201", 1, corrected(1, 201));
        Due.due("(3 * 300 + 299) / 599", 2, corrected(3, 599));
        Due.due("(9 * 300 + 100) / 200", 14, corrected(9, 200));
        // with half of the target rounded up these would be 4 and 7
        Due.due("(4 * 300 + 171) / 343", 3, corrected(4, 343));
        Due.due("(6 * 300 + 138) / 277", 6, corrected(6, 277));
    }

    private static void correctedDialRoundedDown() {
        Due.due("(30 * 300 + 300) / 600", 15, corrected(30, 600));
        Due.due("(31 * 300 + 300) / 600", 16, corrected(31, 600));
        Due.due("(30 * 300 + 149) / 299", 30, corrected(30, 299));
        Due.due("(30 * 300 + 150) / 300", 30, corrected(30, 300));
    }

    private static void correctedToOneAtLeast() {
        DriftGrinders x = Made.withoutChute();
        x.fill(0, 10);
        x.set(3, 30);
        x.dial(0, 60);
        x.grind(0, 1);
        x.shot();
        x.set(0, 600);
        x.dial(0, 5);
        Due.due("(5 * 50 + 300) / 600", 1, x.correct(0));
        Due.due("(1 * 50 + 300) / 600", 1, x.correct(0));
        Due.due("it is 1", 1, x.burrOf(0, 0));
        x.dial(0, 17);
        Due.due("(17 * 50 + 300) / 600", 1, x.correct(0));
        x.dial(0, 18);
        Due.due("(18 * 50 + 300) / 600", 2, x.correct(0));
    }

    private static void correctedToSixtyAtMost() {
        Due.due("(20 * 300 + 50) / 100", 60, corrected(20, 100));
        Due.due("(21 * 300 + 50) / 100", 60, corrected(21, 100));
        Due.due("(60 * 300 + 50) / 100", 60, corrected(60, 100));
        Due.due("(60 * 300 + 151) / 302", 60, corrected(60, 302));
        Due.due("(60 * 300 + 152) / 305", 59, corrected(60, 305));
    }

    // ---- "If setting 5 is 1, each shot corrects its own burr at once (ahead of the seconds that pass), if
    // its time is away from the target by more than setting 1."

    /** A shot of 300 by burr 1; answers how often it was corrected, and whether it counts as near. */
    private static int correctionsAndNear(int target, int tolerance, int setting5) {
        DriftGrinders x = Made.withoutChute();
        x.fill(0, 10);
        x.set(0, target);
        x.set(1, tolerance);
        x.set(5, setting5);
        x.grind(1, 1);
        x.shot();
        Due.due("the other burr is not corrected", 0, x.burrOf(0, 4));
        return 10 * x.burrOf(1, 4) + x.count(9);
    }

    private static void awayByTheToleranceIsNotCorrected() {
        Due.due("away by 20 of 20", 1, correctionsAndNear(280, 20, 1));
        Due.due("away by 21 of 20", 10, correctionsAndNear(279, 20, 1));
        Due.due("away by 200 of 200", 1, correctionsAndNear(100, 200, 1));
        Due.due("away by 200 of 199", 10, correctionsAndNear(100, 199, 1));
    }

    private static void tooFastIsCorrectedToo() {
        Due.due("away by 20 of 20", 1, correctionsAndNear(320, 20, 1));
        Due.due("away by 21 of 20", 10, correctionsAndNear(321, 20, 1));
    }

    private static void noToleranceAtAll() {
        Due.due("on the target", 1, correctionsAndNear(300, 0, 1));
        Due.due("1 above it", 10, correctionsAndNear(299, 0, 1));
        Due.due("1 below it", 10, correctionsAndNear(301, 0, 1));
    }

    private static void bySetting5Alone() {
        Due.due("away by 21 of 20", 0, correctionsAndNear(279, 20, 0));
        Due.due("away by 20 of 20", 1, correctionsAndNear(280, 20, 0));
    }

    private static void ownBurrOfBothAlikeIsZero() {
        DriftGrinders x = Made.withoutChute();
        x.set(5, 1);
        x.set(1, 0);
        x.fill(0, 40);
        x.grind(1, 20);
        x.grind(0, 20);
        x.shot();
        Due.due("burr 0 is corrected", 1, x.burrOf(0, 4));
        Due.due("(30 * 300 + 140) / 280", 32, x.burrOf(0, 0));
        Due.due("burr 1 is not", 0, x.burrOf(1, 4));
    }

    // ---- "The settings are (in parentheses: range; first value): 0 target (100 to 600; 280), 1 tolerance (0
    // to 200; 20), 2 what the chute holds (0 to 100; 40), 3 and 4 the hardnesses of the kinds 0 and 1 (30 to
    // 300; 90 and 120), 5 (0 or 1; 0)."

    private static void rangesAndFirstValues() {
        int[][] rows = {{100, 600, 280}, {0, 200, 20}, {0, 100, 40}, {30, 300, 90}, {30, 300, 120}, {0, 1, 0}};
        for (int what = 0; what < rows.length; what++) {
            String name = "setting " + what;
            DriftGrinders x = new DriftGrinders();
            Due.due(name + " at first", rows[what][2], x.count(20 + what));
            Due.due(name + " too small", Due.INVALID, x.set(what, rows[what][0] - 1));
            Due.due(name + " too large", Due.INVALID, x.set(what, rows[what][1] + 1));
            Due.due(name + " as at first", rows[what][2], x.count(20 + what));
            Due.due(name + " least", rows[what][2], x.set(what, rows[what][0]));
            Due.due(name + " is the least", rows[what][0], x.count(20 + what));
            Due.due(name + " most", rows[what][0], x.set(what, rows[what][1]));
            Due.due(name + " is the most", rows[what][1], x.count(20 + what));
        }
    }

    private static void settingsAreIndependent() {
        int[] values = {101, 2, 3, 34, 35, 1};
        DriftGrinders x = new DriftGrinders();
        for (int what = 0; what < values.length; what++) {
            x.set(what, values[what]);
        }
        for (int what = 0; what < values.length; what++) {
            Due.due("setting " + what, values[what], x.count(20 + what));
        }
    }
}
