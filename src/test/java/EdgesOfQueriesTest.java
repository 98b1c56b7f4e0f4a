/** The boundary cases of promises 10 to 19, a test for each sentence; the refused calls are in RefusalsTest. */
public final class EdgesOfQueriesTest {
    private EdgesOfQueriesTest() {
    }

    public static void main(String[] args) {
        whatThereIs();
        best();
        wouldTake();
        dialFor();
        stale();
        coolAfter();
        counts();
        Due.end();
    }

    private static void whatThereIs() {
        burrsOfNothing();
        correctedToTheSameDialCounts();
        firstAndLastLot();
        firstAndLastPortion();
        portionsKeepTheirGap();
        shotsFromTheLatest();
        awayFromTheTargetOfNow();
        secondAtWhichTheShotBegan();
        shotsOfOneAndOfManyPortions();
    }

    private static void best() {
        laterOneFirstOfSeveral();
        aboveAndBelowAreAlike();
        amongThoseThatAreKept();
        targetOfNow();
    }

    private static void wouldTake() {
        basketThatWouldHaveOne();
        basketThatHasSomeAlready();
        basketThatWouldBeFull();
        lastOfTheHopper();
        gapOfNow();
        asTheShotThen();
    }

    private static void dialFor() {
        dialsOfGapTen();
        lowestOfNearestAboveAndBelow();
        dialSixty();
        warmBurr();
    }

    private static void stale() {
        nothingIsStale();
        upToTheLatestOne();
        otherKindOtherBurrOtherGap();
        gapThatComesBack();
        kindOfTheFirstLotOfNow();
        hopperWithoutAnything();
    }

    private static void coolAfter() {
        warmAsToldAlready();
        aheadOfATen();
        atATen();
        downToZero();
        fromThreeHundred();
        stepsThatSkipTheWarmth();
    }

    private static void counts() {
        nearAsItWasThen();
        allKindsOfCounts();
        settingsFrom20To25();
        lengthOfTheText();
    }

    // ---- promise 10: "3: how much it ground so far; 4: how often it was corrected so far (also to the same
    // dial)"

    private static void burrsOfNothing() {
        DriftGrinders x = new DriftGrinders();
        int[] atFirst = {30, 0, 300, 0, 0};
        for (int what = 0; what < atFirst.length; what++) {
            Due.due("burr 0, " + what, atFirst[what], x.burrOf(0, what));
            Due.due("burr 1, " + what, atFirst[what], x.burrOf(1, what));
        }
        x.fill(0, 3);
        x.grind(1, 1);
        x.grind(1, 2);
        Due.due("ground by burr 1", 3, x.burrOf(1, 3));
        Due.due("ground by burr 0", 0, x.burrOf(0, 3));
    }

    private static void correctedToTheSameDialCounts() {
        DriftGrinders x = Made.ofShots(1);
        x.set(0, 300);
        Due.due("300 of 300", 30, x.correct(0));
        Due.due("it counts", 1, x.burrOf(0, 4));
        Due.due("again", 30, x.correct(0));
        Due.due("it counts again", 2, x.burrOf(0, 4));
        x.dial(0, 31);
        Due.due("to set the dial is none", 2, x.burrOf(0, 4));
        DriftGrinders y = Made.withoutChute();
        y.set(5, 1);
        y.set(1, 0);
        y.set(0, 301);
        y.fill(0, 1);
        y.grind(0, 1);
        y.shot();
        Due.due("(30 * 300 + 150) / 301", 30, y.burrOf(0, 0));
        Due.due("by the shot, to the same dial", 1, y.burrOf(0, 4));
    }

    // ---- promise 11: "0 for the first one, and so on"

    private static void firstAndLastLot() {
        DriftGrinders x = Made.ofLots(6);
        for (int lot = 0; lot < 6; lot++) {
            Due.due("kind of lot " + lot, lot % 2, x.lotOf(lot, 0));
            Due.due("amount of lot " + lot, 1, x.lotOf(lot, 1));
        }
        x.grind(0, 5);
        Due.due("the sixth one is the first one", 1, x.lotOf(0, 0));
        Due.due("there is no second one", Due.NOT_FOUND, x.lotOf(1, 0));
    }

    // ---- promise 12: "0 for the earliest one, and so on"

    private static void firstAndLastPortion() {
        DriftGrinders x = Made.withoutChute();
        x.fill(0, 400);
        for (int i = 1; i <= 27; i++) {
            x.grind(i % 2, i);
        }
        for (int i = 1; i <= 27; i++) {
            Due.due("its amount", i, x.portionOf(1, i - 1, 0));
            Due.due("its burr", i % 2, x.portionOf(1, i - 1, 2));
        }
        Due.due("behind the last one", Due.NOT_FOUND, x.portionOf(1, 27, 0));
        DriftGrinders y = Made.filled(0, 400);
        for (int i = 1; i <= 8; i++) {
            y.grind(i % 2, i);
        }
        for (int i = 1; i <= 8; i++) {
            Due.due("its amount", i, y.portionOf(0, i - 1, 0));
            Due.due("its burr", i % 2, y.portionOf(0, i - 1, 2));
        }
        Due.due("behind the last one", Due.NOT_FOUND, y.portionOf(0, 8, 0));
    }

    private static void portionsKeepTheirGap() {
        DriftGrinders x = Made.filled(0, 100);
        x.dial(0, 1);
        x.grind(0, 41);
        x.dial(0, 60);
        Due.due("in the chute", 10, x.portionOf(0, 0, 3));
        Due.due("in the basket", 10, x.portionOf(1, 0, 3));
        Due.due("its flow", 9000, x.portionOf(1, 0, 4));
        x.set(3, 30);
        Due.due("its flow goes by the hardness of now", 3000, x.portionOf(1, 0, 4));
        Due.due("in the chute too", 3000, x.portionOf(0, 0, 4));
    }

    // ---- promise 13: "0 for the latest one, and so on"; "5: how far its time is from the target as it is now;
    // 6: the second at which it began; 7: of how many portions it was"

    private static void shotsFromTheLatest() {
        DriftGrinders x = Made.ofShots(14);
        for (int index = 0; index < 12; index++) {
            Due.due("shot " + index, 13 - index, x.shotOf(index, 0));
        }
        Due.due("behind the last one that is kept", Due.NOT_FOUND, x.shotOf(12, 0));
    }

    private static void awayFromTheTargetOfNow() {
        DriftGrinders x = Made.ofShots(1);
        int[][] targetsAndAways = {{100, 200}, {299, 1}, {300, 0}, {301, 1}, {600, 300}};
        for (int[] row : targetsAndAways) {
            x.set(0, row[0]);
            Due.due("away from " + row[0], row[1], x.shotOf(0, 5));
        }
        Due.due("its time stays", 300, x.shotOf(0, 1));
    }

    private static void secondAtWhichTheShotBegan() {
        DriftGrinders x = Made.ofShots(2);
        Due.due("behind the grinding", 1, x.shotOf(1, 6));
        Due.due("behind the shot of 30 and the grinding", 32, x.shotOf(0, 6));
        Due.due("the second now", 62, x.count(0));
    }

    private static void shotsOfOneAndOfManyPortions() {
        Due.due("one portion", 1, Made.ofShots(1).shotOf(0, 7));
        DriftGrinders x = Made.ofLots(6);
        x.set(2, 0);
        x.grind(0, 6);
        x.shot();
        Due.due("six portions of one grinding", 6, x.shotOf(0, 7));
        Due.due("of 6", 6, x.shotOf(0, 2));
    }

    // ---- promise 14: "by how far their times are from the target as it is now, the nearest first, of several
    // the later one first"

    private static DriftGrinders ofTimes(int... tens) {
        DriftGrinders x = Made.withoutChute();
        x.fill(0, 100);
        for (int ten : tens) {
            // at gap 300 a hardness of 3 is a time of 10
            x.set(3, 3 * ten);
            x.grind(0, 1);
            x.shot();
        }
        return x;
    }

    private static void dueOrder(String name, DriftGrinders x, int... numbers) {
        for (int place = 0; place < numbers.length; place++) {
            Due.due(name + ", place " + place, numbers[place], x.best(place));
        }
        Due.due(name + ", no place more", Due.NOT_FOUND, x.best(numbers.length));
    }

    private static void laterOneFirstOfSeveral() {
        dueOrder("all alike", ofTimes(30, 30, 30, 30), 3, 2, 1, 0);
        dueOrder("two and two", ofTimes(28, 30, 28, 30), 2, 0, 3, 1);
        dueOrder("one alone", ofTimes(90), 0);
    }

    private static void aboveAndBelowAreAlike() {
        dueOrder("280 away by 20", ofTimes(30, 26, 30, 26), 3, 2, 1, 0);
        dueOrder("260 and 300, and 290", ofTimes(26, 29, 30), 1, 2, 0);
    }

    private static void amongThoseThatAreKept() {
        DriftGrinders x = ofTimes(28, 30, 31, 32, 33, 34, 35, 36, 37, 38, 39, 40);
        Due.due("shot 0 is the best one", 0, x.best(0));
        Due.due("shot 11 is the twelfth one", 11, x.best(11));
        Due.due("no thirteenth", Due.NOT_FOUND, x.best(12));
        DriftGrinders y = ofTimes(28, 30, 31, 32, 33, 34, 35, 36, 37, 38, 39, 40, 50);
        dueOrder("shot 0 is kept no more", y, 1, 2, 3, 4, 5, 6, 7, 8, 9, 10, 11, 12);
    }

    private static void targetOfNow() {
        DriftGrinders x = ofTimes(10, 60, 35);
        x.set(0, 100);
        dueOrder("target 100", x, 0, 2, 1);
        x.set(0, 600);
        dueOrder("target 600", x, 1, 2, 0);
        x.set(0, 350);
        dueOrder("target 350, two are away by 250", x, 2, 1, 0);
    }

    // ---- promise 15: "NOT_POSSIBLE if the hopper has less, or the basket would be empty; LIMIT_REACHED as for
    // grind()"

    private static void basketThatWouldHaveOne() {
        DriftGrinders x = Made.filled(0, 100);
        Due.due("all in the chute", Due.NOT_POSSIBLE, x.wouldTake(0, 40));
        Due.due("one in the basket", 300, x.wouldTake(0, 41));
        x.set(2, 0);
        Due.due("without a chute", 300, x.wouldTake(0, 1));
        x.set(2, 100);
        Due.due("100 of 100 in the chute", Due.NOT_POSSIBLE, x.wouldTake(0, 100));
    }

    private static void basketThatHasSomeAlready() {
        DriftGrinders x = Made.withoutChute();
        x.fill(0, 100);
        x.grind(0, 1);
        x.set(2, 100);
        Due.due("nothing comes into it", 300, x.wouldTake(1, 50));
        x.dial(1, 1);
        Due.due("so that another gap is no other time", 300, x.wouldTake(1, 50));
    }

    private static void basketThatWouldBeFull() {
        DriftGrinders x = Made.filled(0, 999);
        x.grind(0, 399);
        Due.due("400 in the basket", 300, x.wouldTake(0, 41));
        Due.due("401 in the basket", Due.LIMIT, x.wouldTake(0, 42));
        DriftGrinders y = Made.withoutChute();
        y.fill(0, 999);
        Due.due("400 at once", 300, y.wouldTake(0, 400));
        y.grind(0, 400);
        Due.due("no room at all", Due.LIMIT, y.wouldTake(0, 1));
    }

    private static void lastOfTheHopper() {
        DriftGrinders x = Made.filled(0, 50);
        Due.due("all that there is", 300, x.wouldTake(0, 50));
        Due.due("one more than there is", Due.NOT_POSSIBLE, x.wouldTake(0, 51));
    }

    private static void gapOfNow() {
        DriftGrinders x = Made.withoutChute();
        x.fill(0, 999);
        Due.due("100 of warmth would come, but later", 300, x.wouldTake(0, 400));
        x.dial(0, 60);
        Due.due("90000 / 600", 150, x.wouldTake(0, 400));
        x.dial(0, 1);
        Due.due("90000 / 10", 9000, x.wouldTake(0, 400));
        Due.due("the other burr", 300, x.wouldTake(1, 400));
    }

    private static void asTheShotThen() {
        for (int amount = 1; amount <= 360; amount += 7) {
            DriftGrinders x = Made.filled(0, 150);
            x.fill(1, 100);
            x.fill(0, 500);
            x.grind(0, 77);
            x.dial(1, 23);
            x.grind(1, 3);
            int told = x.wouldTake(1, amount);
            x.grind(1, amount);
            Due.due("the shot behind " + amount, told, x.shot());
        }
    }

    // ---- promise 16: "Returns the dial, of several the lowest"

    private static void dialsOfGapTen() {
        DriftGrinders x = Made.asWarmAsCanBe();
        x.set(0, 600);
        x.set(3, 30);
        // less 60: the dials 1 to 7 have gap 10, 8 has 20, 11 has 50
        Due.due("30000 / 50 is 600", 11, x.dialFor(0, 0));
        x.set(4, 30);
        Due.due("the same of kind 1", 11, x.dialFor(0, 1));
        Due.due("cold", 5, x.dialFor(1, 1));
        x.set(3, 300);
        // all of them are too fine then: 300000 / 540 is 555
        x.set(0, 100);
        Due.due("as far from gap 10 as can be", 60, x.dialFor(0, 0));
    }

    private static void lowestOfNearestAboveAndBelow() {
        DriftGrinders x = new DriftGrinders();
        x.set(3, 36);
        x.set(0, 557);
        Due.due("600 at dial 6 and 514 at dial 7", 6, x.dialFor(0, 0));
        x.set(0, 556);
        Due.due("514 is nearer", 7, x.dialFor(0, 0));
        x.set(3, 30);
        x.set(0, 105);
        Due.due("107 at dial 28 and 103 at dial 29", 28, x.dialFor(0, 0));
    }

    private static void dialSixty() {
        DriftGrinders x = new DriftGrinders();
        x.set(4, 300);
        x.set(0, 100);
        Due.due("300000 / 600 is 500", 60, x.dialFor(0, 1));
        x.set(0, 500);
        Due.due("just 500", 60, x.dialFor(0, 1));
        x.set(0, 503);
        Due.due("500 is nearer than 508", 60, x.dialFor(0, 1));
        x.set(0, 504);
        Due.due("500 and 508 are as near: the lowest", 59, x.dialFor(0, 1));
    }

    private static void warmBurr() {
        DriftGrinders x = Made.filled(0, 100);
        x.grind(0, 16);
        Due.due("warmth 4 is no narrower", 32, x.dialFor(0, 0));
        x.set(0, 600);
        Due.due("90000 / 150", 15, x.dialFor(0, 0));
        x.grind(0, 4);
        // warmth 5: 90000 / 149 is 604, 90000 / 159 is 566
        Due.due("604", 15, x.dialFor(0, 0));
        x.dial(0, 1);
        Due.due("whatever the dial is", 15, x.dialFor(0, 0));
    }

    // ---- promise 17: "all portions up to the latest one that is of another kind than the first lot of the
    // hopper, of the other burr, or of another gap than this burr has now"; "0 if there is none"

    private static void nothingIsStale() {
        DriftGrinders x = Made.filled(0, 100);
        Due.due("an empty chute", 0, x.stale(0));
        Due.due("an empty chute, for the other one", 0, x.stale(1));
        x.grind(0, 3);
        x.grind(0, 3);
        Due.due("two portions, both fresh", 0, x.stale(0));
    }

    private static void upToTheLatestOne() {
        DriftGrinders x = Made.filled(0, 100);
        x.grind(1, 1);
        x.grind(0, 2);
        x.grind(1, 3);
        Due.due("the last one is stale: all", 6, x.stale(0));
        Due.due("the last but one is: what was ahead too", 3, x.stale(1));
        x.grind(1, 3);
        Due.due("the last one is fresh", 3, x.stale(1));
    }

    private static void otherKindOtherBurrOtherGap() {
        DriftGrinders x = Made.filled(0, 3);
        x.fill(1, 10);
        x.grind(0, 3);
        Due.due("another kind", 3, x.stale(0));
        DriftGrinders y = Made.filled(0, 10);
        y.grind(0, 3);
        Due.due("the other burr", 3, y.stale(1));
        y.dial(0, 29);
        Due.due("another gap", 3, y.stale(0));
        DriftGrinders z = Made.filled(0, 100);
        z.grind(0, 20);
        Due.due("a gap less by 1", 20, z.stale(0));
    }

    private static void gapThatComesBack() {
        DriftGrinders x = Made.filled(0, 100);
        x.grind(0, 20);
        Due.due("warmth 5", 20, x.stale(0));
        x.rest(8);
        Due.due("warmth 4", 0, x.stale(0));
    }

    private static void kindOfTheFirstLotOfNow() {
        DriftGrinders x = Made.filled(0, 2);
        x.fill(1, 10);
        x.grind(0, 1);
        Due.due("one of the first lot is left", 0, x.stale(0));
        x.grind(0, 1);
        Due.due("the next lot is the first one now", 2, x.stale(0));
        x.grind(0, 1);
        Due.due("up to the latest of the other kind", 2, x.stale(0));
    }

    private static void hopperWithoutAnything() {
        DriftGrinders x = Made.filled(0, 2);
        x.grind(0, 1);
        Due.due("one left", 0, x.stale(0));
        x.grind(0, 1);
        Due.due("none left", Due.NOT_POSSIBLE, x.stale(0));
        x.fill(0, 1);
        Due.due("one again", 0, x.stale(0));
    }

    // ---- promise 18: "Tells behind how many seconds a burr is as warm as told at most, if nothing is done."

    private static void warmAsToldAlready() {
        DriftGrinders x = Made.filled(0, 80);
        x.grind(0, 80);
        Due.due("20 of 20", 0, x.coolAfter(0, 20));
        Due.due("20 of 21", 0, x.coolAfter(0, 21));
        Due.due("20 of 300", 0, x.coolAfter(0, 300));
        Due.due("0 of 0", 0, x.coolAfter(1, 0));
    }

    private static void aheadOfATen() {
        DriftGrinders x = Made.filled(0, 80);
        x.grind(0, 80);
        Due.due("19 at second 10, from 8", 2, x.coolAfter(0, 19));
        Due.due("18 at second 20, from 8", 12, x.coolAfter(0, 18));
        x.rest(1);
        Due.due("19 at second 10, from 9", 1, x.coolAfter(0, 19));
    }

    private static void atATen() {
        DriftGrinders x = Made.filled(0, 80);
        x.grind(0, 80);
        x.rest(2);
        Due.due("19 at second 10", 0, x.coolAfter(0, 19));
        Due.due("18 at second 20, from 10", 10, x.coolAfter(0, 18));
        x.rest(1);
        Due.due("18 at second 20, from 11", 9, x.coolAfter(0, 18));
    }

    private static void downToZero() {
        DriftGrinders x = Made.filled(0, 4);
        x.grind(0, 4);
        Due.due("1 falls to 0 at second 10", 9, x.coolAfter(0, 0));
        Due.due("1 of 1", 0, x.coolAfter(0, 1));
        x.rest(9);
        Due.due("0 of 0", 0, x.coolAfter(0, 0));
    }

    private static void fromThreeHundred() {
        DriftGrinders x = Made.asWarmAsCanBe();
        Due.due("300 of 300", 0, x.coolAfter(0, 300));
        Due.due("282 of 299", 1, x.coolAfter(0, 299));
        Due.due("282 of 282", 1, x.coolAfter(0, 282));
        Due.due("265 of 281", 11, x.coolAfter(0, 281));
        for (int warmth = 0; warmth <= 299; warmth++) {
            DriftGrinders y = Made.asWarmAsCanBe();
            int seconds = y.coolAfter(0, warmth);
            Due.due("no more than 999 seconds", 1, seconds > 0 && seconds <= 999 ? 1 : 0);
            if (seconds > 1) {
                y.rest(seconds - 1);
            }
            Due.due("one second ahead, warmer than " + warmth, 1, y.burrOf(0, 1) > warmth ? 1 : 0);
            y.rest(1);
            Due.due("then, no warmer than " + warmth, 1, y.burrOf(0, 1) <= warmth ? 1 : 0);
        }
    }

    private static void stepsThatSkipTheWarmth() {
        DriftGrinders x = Made.filled(0, 400);
        x.grind(0, 400);
        // 79 at second 40, then 75
        Due.due("75", 10, x.coolAfter(0, 75));
        Due.due("76 is skipped", 10, x.coolAfter(0, 76));
        Due.due("78 is skipped", 10, x.coolAfter(0, 78));
        Due.due("79", 0, x.coolAfter(0, 79));
    }

    // ---- promise 19: "9: shots so far whose time was away from the target by setting 1 at most, both as they
    // were then"

    private static void nearAsItWasThen() {
        DriftGrinders x = Made.ofShots(1);
        Due.due("away by 20 of 20", 1, x.count(9));
        x.set(1, 0);
        x.set(0, 600);
        Due.due("both as they were then", 1, x.count(9));
        x.grind(0, 1);
        x.shot();
        Due.due("away by 300 of 0", 1, x.count(9));
        x.set(0, 300);
        Due.due("on the target too late", 1, x.count(9));
        x.grind(0, 1);
        x.shot();
        Due.due("on the target", 2, x.count(9));
        Due.due("of three", 3, x.count(8));
    }

    private static void allKindsOfCounts() {
        DriftGrinders x = Made.filled(0, 400);
        Due.due("filled", 400, x.count(1));
        x.grind(0, 141);
        Due.due("ground", 141, x.count(2));
        Due.due("in the hopper", 259, x.count(5));
        Due.due("in the chute", 40, x.count(6));
        Due.due("in the basket", 101, x.count(7));
        Due.due("brewed", 0, x.count(3));
        x.shot();
        Due.due("brewed then", 101, x.count(3));
        Due.due("in the basket then", 0, x.count(7));
        x.purge();
        Due.due("purged", 40, x.count(4));
        Due.due("in the chute then", 0, x.count(6));
        x.grind(1, 59);
        Due.due("ground by both", 200, x.count(2));
    }

    private static void settingsFrom20To25() {
        DriftGrinders x = new DriftGrinders();
        int[] first = {280, 20, 40, 90, 120, 0};
        for (int what = 0; what < first.length; what++) {
            Due.due("count(" + (20 + what) + ")", first[what], x.count(20 + what));
        }
        Due.due("count(19)", Due.INVALID, x.count(19));
        Due.due("count(26)", Due.INVALID, x.count(26));
        Due.due("count(12)", Due.INVALID, x.count(12));
        Due.due("count(-1)", Due.INVALID, x.count(-1));
    }

    private static void lengthOfTheText() {
        DriftGrinders x = new DriftGrinders();
        Due.due("of nothing", 0, x.count(11));
        for (int length = 1; length <= 60; length++) {
            x.type('s');
            Due.due("its length", length, x.count(11));
        }
        x.type('s');
        Due.due("no longer than 60", 60, x.count(11));
        x.clearText();
        Due.due("of nothing again", 0, x.count(11));
    }
}
