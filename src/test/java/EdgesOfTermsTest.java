/** The boundary cases of the sections Terms and Time, a test for each sentence. */
public final class EdgesOfTermsTest {
    private EdgesOfTermsTest() {
    }

    public static void main(String[] args) {
        hopper();
        burrs();
        time();
        lastCall();
        Due.end();
    }

    private static void hopper() {
        sixLotsAtMost();
        emptiedLotsMakeRoom();
        lotsHaveOneOrMore();
        fourThousandAltogether();
        fourThousandInSixLots();
        sameKindIsAdded();
        onlyTheLastLotCounts();
        nothingIsAddedToAnEmptiedLot();
    }

    private static void burrs() {
        dialsFromOneToSixty();
        warmthOfThreeHundredAtMost();
        gapLessAFifthRoundedDown();
        gapOfTenAtLeast();
    }

    private static void time() {
        countedFromZero();
        coolsAtTensAlone();
        coolsAtEachTenOfALongCall();
        fallsByASixteenthRoundedDown();
        fallsByOneAtLeast();
        noWarmthDoesNotFall();
        bothBurrsFallInTheSameSecond();
    }

    // ---- "The hopper has at most 6 lots, one behind another, each with a kind (0 or 1) and an amount
    // (1 or more), 4000 altogether at most."

    private static void sixLotsAtMost() {
        DriftGrinders x = Made.ofLots(5);
        Due.due("5 lots, one more", 6, x.fill(1, 1));
        Due.due("6 lots, one more", Due.LIMIT, x.fill(0, 1));
        Due.due("the sixth lot", 1, x.lotOf(5, 0));
        Due.due("no seventh lot", Due.NOT_FOUND, x.lotOf(6, 0));
    }

    private static void emptiedLotsMakeRoom() {
        DriftGrinders x = Made.ofLots(6);
        x.grind(0, 1);
        Due.due("5 of 6 lots left, one more", 6, x.fill(0, 1));
        Due.due("it is the sixth one", 0, x.lotOf(5, 0));
        Due.due("6 lots again", Due.LIMIT, x.fill(1, 1));
    }

    private static void lotsHaveOneOrMore() {
        DriftGrinders x = Made.filled(0, 2);
        x.fill(1, 1);
        x.grind(0, 1);
        Due.due("a lot of 1 stays", 1, x.lotOf(0, 1));
        Due.due("with its kind", 0, x.lotOf(0, 0));
        x.grind(0, 1);
        Due.due("a lot of 0 does not", 1, x.lotOf(0, 0));
        Due.due("one lot left", Due.NOT_FOUND, x.lotOf(1, 0));
        x.grind(0, 1);
        Due.due("no lot left", Due.NOT_FOUND, x.lotOf(0, 0));
    }

    private static void fourThousandAltogether() {
        DriftGrinders x = Made.filled(0, 999);
        x.fill(0, 999);
        x.fill(0, 999);
        x.fill(0, 999);
        Due.due("3996, 5 more", Due.LIMIT, x.fill(0, 5));
        Due.due("3996, 4 more", 4000, x.fill(0, 4));
        Due.due("4000, one more", Due.LIMIT, x.fill(0, 1));
        x.grind(0, 3);
        Due.due("3997, 4 more", Due.LIMIT, x.fill(0, 4));
        Due.due("3997, 3 more", 4000, x.fill(0, 3));
    }

    private static void fourThousandInSixLots() {
        DriftGrinders x = Made.filled(0, 999);
        x.fill(1, 999);
        x.fill(0, 999);
        x.fill(1, 999);
        x.fill(0, 1);
        Due.due("six lots, 4000", 4000, x.fill(1, 3));
        Due.due("too much for the last lot", Due.LIMIT, x.fill(1, 1));
        Due.due("too much, and too many lots", Due.LIMIT, x.fill(0, 1));
        x.grind(0, 5);
        Due.due("room, but no lot", Due.LIMIT, x.fill(0, 1));
        Due.due("room in the last lot", 4000, x.fill(1, 5));
    }

    // ---- "A lot that is filled in behind one of the same kind is added to that."

    private static void sameKindIsAdded() {
        DriftGrinders x = Made.ofLots(6);
        Due.due("added to the sixth lot", 1005, x.fill(1, 999));
        Due.due("what it has", 1000, x.lotOf(5, 1));
        DriftGrinders y = Made.filled(1, 1);
        y.fill(1, 2);
        Due.due("added to the only lot", 3, y.lotOf(0, 1));
        Due.due("no second lot", Due.NOT_FOUND, y.lotOf(1, 1));
    }

    private static void onlyTheLastLotCounts() {
        DriftGrinders x = Made.ofLots(2);
        x.fill(0, 7);
        Due.due("a lot of its own", 7, x.lotOf(2, 1));
        Due.due("the first one stays", 1, x.lotOf(0, 1));
        x.fill(0, 2);
        Due.due("added to the third one", 9, x.lotOf(2, 1));
        Due.due("the first one stays again", 1, x.lotOf(0, 1));
    }

    private static void nothingIsAddedToAnEmptiedLot() {
        DriftGrinders x = Made.filled(1, 5);
        x.grind(0, 5);
        Due.due("an emptied hopper, the same kind", 3, x.fill(1, 3));
        Due.due("what the lot has", 3, x.lotOf(0, 1));
        Due.due("its kind", 1, x.lotOf(0, 0));
        DriftGrinders y = Made.filled(1, 5);
        y.fill(0, 5);
        y.grind(0, 5);
        y.fill(1, 2);
        Due.due("behind a lot of the other kind", 5, y.lotOf(0, 1));
        Due.due("a lot of its own", 2, y.lotOf(1, 1));
    }

    // ---- "There are 2 burrs, 0 and 1, each with a dial (1 to 60; 30 at first) and a warmth (0 to 300; 0
    // at first)."

    private static void dialsFromOneToSixty() {
        for (int burr = 0; burr < 2; burr++) {
            DriftGrinders x = new DriftGrinders();
            Due.due("a dial at first", 30, x.burrOf(burr, 0));
            Due.due("dial 0", Due.INVALID, x.dial(burr, 0));
            Due.due("dial 61", Due.INVALID, x.dial(burr, 61));
            Due.due("dial 1", 30, x.dial(burr, 1));
            Due.due("dial 60", 1, x.dial(burr, 60));
            Due.due("it is 60", 60, x.burrOf(burr, 0));
            Due.due("the other one stays", 30, x.burrOf(1 - burr, 0));
        }
    }

    private static void warmthOfThreeHundredAtMost() {
        DriftGrinders x = Made.asWarmAsCanBe();
        Due.due("its second", 389, x.count(0));
        Due.due("300 at most", 300, x.burrOf(0, 1));
        x.grind(0, 4);
        Due.due("300 is 300 still, less 18", 282, x.burrOf(0, 1));
        x.grind(0, 72);
        Due.due("282 and 18: just 300", 300, x.burrOf(0, 1));
    }

    // ---- "The gap of a burr is 10 times its dial, less (its warmth divided by 5, rounded down), but at
    // least 10."

    private static void gapLessAFifthRoundedDown() {
        DriftGrinders x = Made.filled(0, 100);
        x.grind(0, 16);
        Due.due("warmth 4", 300, x.burrOf(0, 2));
        x.grind(0, 4);
        Due.due("warmth 5", 299, x.burrOf(0, 2));
        x.grind(0, 16);
        Due.due("warmth 9", 299, x.burrOf(0, 2));
        x.grind(0, 4);
        Due.due("warmth 10", 298, x.burrOf(0, 2));
        Due.due("the cold one", 300, x.burrOf(1, 2));
    }

    private static void gapOfTenAtLeast() {
        DriftGrinders x = Made.asWarmAsCanBe();
        int[][] dialsAndGaps = {{60, 540}, {9, 30}, {8, 20}, {7, 10}, {6, 10}, {1, 10}};
        for (int[] row : dialsAndGaps) {
            x.dial(0, row[0]);
            Due.due("gap at dial " + row[0] + ", warmth 300", row[1], x.burrOf(0, 2));
        }
        x.dial(1, 1);
        Due.due("gap at dial 1, cold", 10, x.burrOf(1, 2));
        x.dial(1, 2);
        Due.due("gap at dial 2, cold", 20, x.burrOf(1, 2));
        x.rest(1);
        x.dial(0, 6);
        Due.due("60 - 56", 10, x.burrOf(0, 2));
        x.dial(0, 7);
        Due.due("70 - 56", 14, x.burrOf(0, 2));
    }

    // ---- "Time is counted in seconds, from 0. At each second whose number can be divided by 10 the warmth
    // of each burr falls by (warmth / 16, rounded down), but at least by 1, if it is not 0."

    private static void countedFromZero() {
        DriftGrinders x = new DriftGrinders();
        Due.due("the first second", 0, x.count(0));
        x.rest(1);
        Due.due("one second", 1, x.count(0));
    }

    private static void coolsAtTensAlone() {
        DriftGrinders x = Made.filled(0, 80);
        x.grind(0, 80);
        Due.due("second 8", 20, x.burrOf(0, 1));
        Due.due("second 9", 0, x.rest(1));
        Due.due("second 10", 1, x.rest(1));
        Due.due("second 19", 0, x.rest(9));
        Due.due("second 20", 1, x.rest(1));
        Due.due("second 30", 1, x.rest(10));
        Due.due("its warmth", 17, x.burrOf(0, 1));
    }

    private static void coolsAtEachTenOfALongCall() {
        DriftGrinders x = Made.filled(0, 88);
        x.grind(0, 88);
        Due.due("second 9", 22, x.burrOf(0, 1));
        Due.due("seconds 10 and 20", 2, x.rest(11));
        Due.due("second 30, to second 39", 1, x.rest(19));
        Due.due("seconds 40, 50 and 60", 3, x.rest(21));
        Due.due("sixteen left, 99 coolings", 16, x.rest(999));
        DriftGrinders y = Made.filled(0, 400);
        y.grind(0, 396);
        // 99, 93, 88, 83, 78 in 40 seconds; from 40 to 1039 are 99 coolings
        Due.due("warmth 78 at second 40", 78, y.burrOf(0, 1));
        Due.due("all of it", 78, y.rest(999));
    }

    private static void fallsByASixteenthRoundedDown() {
        // ground in 10 to 19 seconds: warm by a quarter, and one cooling
        int[][] amountsAndWarmths = {{100, 24}, {124, 30}, {127, 30}, {128, 30}, {132, 31}, {188, 45}, {190, 45}};
        for (int[] row : amountsAndWarmths) {
            DriftGrinders x = Made.filled(0, 400);
            x.grind(0, row[0]);
            Due.due("warmth behind " + row[0], row[1], x.burrOf(0, 1));
        }
        DriftGrinders y = Made.asWarmAsCanBe();
        Due.due("300 / 16", 18, y.rest(1));
        Due.due("282 / 16", 17, y.rest(10));
        Due.due("265 / 16", 16, y.rest(10));
    }

    private static void fallsByOneAtLeast() {
        for (int warmth = 1; warmth <= 22; warmth++) {
            DriftGrinders x = Made.filled(0, 100);
            x.grind(0, 4 * warmth);
            x.rest(9 - x.count(0));
            Due.due("warmth ahead of second 10", warmth, x.burrOf(0, 1));
            Due.due("it falls by", 1, x.rest(1));
        }
    }

    private static void noWarmthDoesNotFall() {
        DriftGrinders x = Made.filled(0, 4);
        Due.due("cold", 0, x.rest(10));
        x.grind(0, 4);
        Due.due("1 falls to 0", 1, x.rest(9));
        Due.due("0 does not fall", 0, x.rest(10));
        Due.due("it is 0", 0, x.burrOf(0, 1));
    }

    private static void bothBurrsFallInTheSameSecond() {
        DriftGrinders x = Made.filled(0, 100);
        x.grind(0, 8);
        x.grind(1, 68);
        Due.due("2 and 17 at second 8", 8, x.count(0));
        Due.due("2 and 17 in second 10", 2, x.rest(2));
        Due.due("1 and 16 in second 20", 2, x.rest(10));
        Due.due("0 and 15 in second 30", 1, x.rest(10));
        Due.due("warmth of 0", 0, x.burrOf(0, 1));
        Due.due("warmth of 1", 14, x.burrOf(1, 1));
    }

    // ---- "An object is used for at most 512 calls after it has been made"

    private static void lastCall() {
        DriftGrinders x = new DriftGrinders();
        for (int call = 1; call <= 511; call++) {
            x.rest(1);
        }
        Due.due("the 512th call", 511, x.count(0));
        DriftGrinders y = new DriftGrinders();
        for (int call = 1; call <= 510; call++) {
            y.fill(0, 1);
        }
        Due.due("the 511th call", 4, y.count(10));
        Due.due("the 512th call", 3, y.undo());
    }
}
