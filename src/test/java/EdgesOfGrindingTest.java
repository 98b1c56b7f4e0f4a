/** The boundary cases of the section Grinding, a test for each sentence. */
public final class EdgesOfGrindingTest {
    private EdgesOfGrindingTest() {
    }

    public static void main(String[] args) {
        grinding();
        chuteAndBasket();
        Due.end();
    }

    private static void grinding() {
        aWholeLotAndNoMore();
        aLotAndOneOfTheNext();
        allSixLotsAtOnce();
        allThatTheHopperHas();
        gapAheadOfTheGrinding();
        warmthByAQuarterRoundedDown();
        secondsByATenthRoundedUp();
        warmAheadOfTheSeconds();
    }

    private static void chuteAndBasket() {
        chuteThatHoldsNothing();
        chuteThatIsJustFull();
        chuteOfOneHundred();
        smallerChuteWaitsForAGrinding();
        largerChuteHoldsMore();
        partedOnlyIfItHasToBe();
        partedAgainAndAgain();
        portionsAlikeStayApart();
        basketOfFourHundred();
        basketFilledByASmallerChute();
    }

    // ---- "beans of this amount come out of the hopper, those of the first lot first; each part of another
    // lot becomes a portion, with its kind, the burr, and the gap of the burr as it is ahead of the grinding."

    private static void aWholeLotAndNoMore() {
        DriftGrinders x = Made.filled(0, 10);
        x.fill(1, 10);
        x.grind(0, 10);
        Due.due("one portion", 10, x.portionOf(0, 0, 0));
        Due.due("and no other", Due.NOT_FOUND, x.portionOf(0, 1, 0));
        Due.due("the next lot is whole", 10, x.lotOf(0, 1));
    }

    private static void aLotAndOneOfTheNext() {
        DriftGrinders x = Made.filled(0, 10);
        x.fill(1, 10);
        x.grind(1, 11);
        Due.due("the first portion", 10, x.portionOf(0, 0, 0));
        Due.due("its kind", 0, x.portionOf(0, 0, 1));
        Due.due("the second portion", 1, x.portionOf(0, 1, 0));
        Due.due("its kind", 1, x.portionOf(0, 1, 1));
        Due.due("its burr", 1, x.portionOf(0, 1, 2));
        Due.due("the next lot", 9, x.lotOf(0, 1));
    }

    private static void allSixLotsAtOnce() {
        DriftGrinders x = Made.ofLots(6);
        x.grind(0, 6);
        for (int portion = 0; portion < 6; portion++) {
            Due.due("a portion of each lot", portion % 2, x.portionOf(0, portion, 1));
        }
        Due.due("and no other", Due.NOT_FOUND, x.portionOf(0, 6, 1));
        Due.due("no lot is left", Due.NOT_FOUND, x.lotOf(0, 0));
        Due.due("six lots may come again", 1, x.fill(1, 1));
    }

    private static void allThatTheHopperHas() {
        DriftGrinders x = Made.filled(0, 10);
        Due.due("one more than there is", Due.NOT_POSSIBLE, x.grind(0, 11));
        Due.due("all that there is", 0, x.grind(0, 10));
        Due.due("the hopper is empty", 0, x.count(5));
        Due.due("nothing more", Due.NOT_POSSIBLE, x.grind(0, 1));
    }

    private static void gapAheadOfTheGrinding() {
        DriftGrinders x = Made.filled(0, 400);
        x.fill(1, 400);
        x.set(2, 0);
        x.dial(0, 1);
        x.grind(0, 10);
        Due.due("gap 10", 10, x.portionOf(1, 0, 3));
        x.dial(0, 60);
        x.grind(0, 390);
        Due.due("as it was ahead of it", 600, x.portionOf(1, 1, 3));
        x.shot();
        x.dial(0, 30);
        int gap = x.burrOf(0, 2);
        x.grind(0, 400);
        Due.due("warm now", 1, x.burrOf(0, 2) < gap ? 1 : 0);
        Due.due("as it was ahead of it", gap, x.portionOf(1, 0, 3));
    }

    // ---- "The warmth of the burr becomes greater by a quarter of the amount, rounded down, 300 at most."

    private static void warmthByAQuarterRoundedDown() {
        int[][] amountsAndWarmths = {{1, 0}, {3, 0}, {4, 1}, {7, 1}, {8, 2}, {89, 22}, {90, 22}};
        for (int[] row : amountsAndWarmths) {
            DriftGrinders x = Made.filled(0, 400);
            x.grind(1, row[0]);
            Due.due("warmth behind " + row[0], row[1], x.burrOf(1, 1));
            Due.due("of the other burr", 0, x.burrOf(0, 1));
        }
        DriftGrinders y = Made.filled(0, 400);
        y.grind(0, 3);
        y.grind(0, 3);
        Due.due("3 and 3 are two times 0", 0, y.burrOf(0, 1));
    }

    // ---- "Then as many seconds pass as a tenth of the amount, rounded up."

    private static void secondsByATenthRoundedUp() {
        int[][] amountsAndSeconds = {{1, 1}, {9, 1}, {10, 1}, {11, 2}, {20, 2}, {21, 3}, {390, 39}, {391, 40},
            {399, 40}, {400, 40}};
        for (int[] row : amountsAndSeconds) {
            DriftGrinders x = Made.filled(0, 400);
            x.grind(0, row[0]);
            Due.due("seconds of " + row[0], row[1], x.count(0));
        }
    }

    private static void warmAheadOfTheSeconds() {
        DriftGrinders x = Made.filled(0, 400);
        x.rest(9);
        x.grind(0, 10);
        Due.due("2 at second 10", 1, x.burrOf(0, 1));
        DriftGrinders y = Made.filled(0, 400);
        y.grind(0, 400);
        Due.due("100, 94, 89, 84, 79", 79, y.burrOf(0, 1));
    }

    // ---- "Then, as long as the chute has more than it holds (setting 2), what is more comes out of it into
    // the basket, the earliest portions first (one is parted into two portions, if it has to be; portions
    // are never put together again)."

    private static void chuteThatHoldsNothing() {
        DriftGrinders x = Made.withoutChute();
        x.fill(0, 10);
        Due.due("one in, one out", 1, x.grind(0, 1));
        Due.due("the chute is empty", Due.NOT_FOUND, x.portionOf(0, 0, 0));
        Due.due("the basket is not", 1, x.portionOf(1, 0, 0));
        Due.due("nothing to purge", 0, x.purge());
    }

    private static void chuteThatIsJustFull() {
        DriftGrinders x = Made.filled(0, 100);
        Due.due("40 of 40", 0, x.grind(0, 40));
        Due.due("the basket is empty", Due.NOT_FOUND, x.portionOf(1, 0, 0));
        Due.due("one more", 1, x.grind(0, 1));
        Due.due("the part that is out", 1, x.portionOf(1, 0, 0));
        Due.due("the part that is in", 39, x.portionOf(0, 0, 0));
        Due.due("the one more", 1, x.portionOf(0, 1, 0));
        Due.due("40 again", 40, x.count(6));
    }

    private static void chuteOfOneHundred() {
        DriftGrinders x = Made.filled(0, 200);
        x.set(2, 100);
        Due.due("100 of 100", 0, x.grind(0, 100));
        Due.due("in the chute", 100, x.count(6));
        Due.due("one more", 1, x.grind(0, 1));
        Due.due("101 of 100", 99, x.grind(0, 99));
        Due.due("in the chute still", 100, x.count(6));
    }

    private static void smallerChuteWaitsForAGrinding() {
        DriftGrinders x = Made.filled(0, 100);
        x.grind(0, 40);
        x.set(2, 0);
        x.rest(10);
        Due.due("nothing comes out by itself", 40, x.count(6));
        Due.due("no shot of it", Due.NOT_POSSIBLE, x.shot());
        Due.due("41 out", 41, x.grind(0, 1));
        Due.due("nothing is left in it", 0, x.count(6));
    }

    private static void largerChuteHoldsMore() {
        DriftGrinders x = Made.filled(0, 200);
        x.grind(0, 41);
        x.set(2, 100);
        Due.due("nothing comes back", 1, x.count(7));
        Due.due("60 more", 0, x.grind(0, 60));
        Due.due("one more", 1, x.grind(0, 1));
    }

    private static void partedOnlyIfItHasToBe() {
        DriftGrinders x = Made.filled(0, 100);
        x.set(2, 10);
        x.grind(0, 4);
        x.grind(0, 6);
        x.grind(0, 4);
        Due.due("the first one is out whole", 4, x.portionOf(1, 0, 0));
        Due.due("no other part of it", Due.NOT_FOUND, x.portionOf(1, 1, 0));
        Due.due("the second one is in whole", 6, x.portionOf(0, 0, 0));
        Due.due("the third one too", 4, x.portionOf(0, 1, 0));
        x.grind(0, 7);
        Due.due("the second one out", 6, x.portionOf(1, 1, 0));
        Due.due("and 1 of the third one", 1, x.portionOf(1, 2, 0));
        Due.due("3 of it are in", 3, x.portionOf(0, 0, 0));
    }

    private static void partedAgainAndAgain() {
        DriftGrinders x = Made.filled(0, 100);
        x.set(2, 10);
        x.grind(1, 10);
        x.grind(0, 1);
        x.grind(0, 1);
        x.grind(0, 1);
        for (int portion = 0; portion < 3; portion++) {
            Due.due("each part by itself", 1, x.portionOf(1, portion, 0));
            Due.due("of the first one", 1, x.portionOf(1, portion, 2));
        }
        Due.due("what is left of it", 7, x.portionOf(0, 0, 0));
        Due.due("its burr", 1, x.portionOf(0, 0, 2));
        Due.due("its gap", 300, x.portionOf(0, 0, 3));
    }

    private static void portionsAlikeStayApart() {
        DriftGrinders x = Made.filled(0, 100);
        x.grind(0, 1);
        x.grind(0, 1);
        Due.due("in the chute", 1, x.portionOf(0, 1, 0));
        x.set(2, 0);
        x.grind(0, 1);
        Due.due("in the basket", 1, x.portionOf(1, 2, 0));
        x.shot();
        Due.due("in the shot", 3, x.shotOf(0, 7));
    }

    // ---- "The basket has at most 400; if it would have more, the grinding is LIMIT_REACHED."

    private static void basketOfFourHundred() {
        DriftGrinders x = Made.withoutChute();
        x.fill(0, 999);
        Due.due("399", 399, x.grind(0, 399));
        Due.due("401", Due.LIMIT, x.grind(0, 2));
        Due.due("400", 1, x.grind(0, 1));
        Due.due("one more than 400", Due.LIMIT, x.grind(0, 1));
        x.set(2, 1);
        Due.due("what the chute holds", 0, x.grind(0, 1));
        x.shot();
        Due.due("400 and 1, of which the chute holds 1", 400, x.grind(0, 400));
    }

    private static void basketFilledByASmallerChute() {
        DriftGrinders x = Made.filled(0, 999);
        x.set(2, 100);
        x.grind(0, 100);
        x.set(2, 0);
        Due.due("100 and 301", Due.LIMIT, x.grind(0, 301));
        Due.due("100 and 300", 400, x.grind(0, 300));
    }
}
