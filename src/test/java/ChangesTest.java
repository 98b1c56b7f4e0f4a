/** Promises 1 to 9: a new object, and the calls that change it. */
public final class ChangesTest {
    private ChangesTest() {
    }

    public static void main(String[] args) {
        constants();
        promise1New();
        promise2Fill();
        promise2FillLimits();
        promise3Grind();
        promise3GrindLotsAndChute();
        promise3GrindParts();
        promise3GrindErrors();
        promise3Warmth();
        promise3WarmthMost();
        promise4Dial();
        promise5Rest();
        promise5RestCountsFromSecondZero();
        promise6Shot();
        promise6ShotOfBoth();
        promise6ShotCorrectsItself();
        promise6ToleranceEdge();
        promise7Purge();
        promise8Correct();
        promise8CorrectEdges();
        promise9Set();
        promise9SettingsWork();
        errorsChangeNothing();
        Due.end();
    }

    private static void constants() {
        Due.due("INVALID_ARGUMENT", -1000001, DriftGrinders.INVALID_ARGUMENT);
        Due.due("NOT_POSSIBLE", -1000002, DriftGrinders.NOT_POSSIBLE);
        Due.due("LIMIT_REACHED", -1000003, DriftGrinders.LIMIT_REACHED);
        Due.due("NOT_FOUND", -1000004, DriftGrinders.NOT_FOUND);
    }

    private static void promise1New() {
        DriftGrinders x = new DriftGrinders();
        for (int what = 0; what <= 11; what++) {
            Due.due("1: count(" + what + ")", 0, x.count(what));
        }
        int[] settings = {280, 20, 40, 90, 120, 0};
        for (int what = 0; what < 6; what++) {
            Due.due("1: count(20 + " + what + ")", settings[what], x.count(20 + what));
        }
        int[] burr = {30, 0, 300, 0, 0};
        for (int what = 0; what < 5; what++) {
            Due.due("1: burrOf(0, " + what + ")", burr[what], x.burrOf(0, what));
            Due.due("1: burrOf(1, " + what + ")", burr[what], x.burrOf(1, what));
        }
        Due.due("1: lotOf(0, 0)", Due.NOT_FOUND, x.lotOf(0, 0));
        Due.due("1: portionOf(0, 0, 0)", Due.NOT_FOUND, x.portionOf(0, 0, 0));
        Due.due("1: portionOf(1, 0, 0)", Due.NOT_FOUND, x.portionOf(1, 0, 0));
        Due.due("1: shotOf(0, 0)", Due.NOT_FOUND, x.shotOf(0, 0));
        Due.due("1: undo()", Due.NOT_POSSIBLE, x.undo());
        DriftGrinders other = new DriftGrinders();
        other.fill(0, 5);
        Due.due("1: another object has its own hopper", 0, x.count(5));
    }

    private static void promise2Fill() {
        DriftGrinders x = new DriftGrinders();
        Due.due("2: fill(1, 1)", 1, x.fill(1, 1));
        Due.due("2: fill(1, 999)", 1000, x.fill(1, 999));
        Due.due("2: one lot of one kind", Due.NOT_FOUND, x.lotOf(1, 0));
        Due.due("2: its kind", 1, x.lotOf(0, 0));
        Due.due("2: its amount", 1000, x.lotOf(0, 1));
        Due.due("2: fill(0, 20)", 1020, x.fill(0, 20));
        Due.due("2: fill(1, 30)", 1050, x.fill(1, 30));
        Due.due("2: a lot of the same kind farther ahead stays", 1000, x.lotOf(0, 1));
        Due.due("2: the lot behind", 30, x.lotOf(2, 1));
        Due.due("2: filled in so far", 1050, x.count(1));
        Due.due("2: no second passes", 0, x.count(0));
        Due.due("2: fill(-1, 5)", Due.INVALID, x.fill(-1, 5));
        Due.due("2: fill(2, 5)", Due.INVALID, x.fill(2, 5));
        Due.due("2: fill(0, 0)", Due.INVALID, x.fill(0, 0));
        Due.due("2: fill(0, 1000)", Due.INVALID, x.fill(0, 1000));
        Due.due("2: fill(0, -5)", Due.INVALID, x.fill(0, -5));
        Due.due("2: fill(0, least)", Due.INVALID, x.fill(0, Integer.MIN_VALUE));
        Due.due("2: fill(most, most)", Due.INVALID, x.fill(Integer.MAX_VALUE, Integer.MAX_VALUE));
    }

    private static void promise2FillLimits() {
        DriftGrinders x = new DriftGrinders();
        for (int lot = 0; lot < 6; lot++) {
            Due.due("2: lot " + lot, 10 * lot + 10, x.fill(lot % 2, 10));
        }
        Due.due("2: a seventh lot", Due.LIMIT, x.fill(0, 1));
        Due.due("2: an invalid amount goes first", Due.INVALID, x.fill(0, 1000));
        Due.due("2: the sixth lot may grow", 61, x.fill(1, 1));
        Due.due("2: what grows", 11, x.lotOf(5, 1));
        x.grind(0, 9);
        Due.due("2: still six lots", Due.LIMIT, x.fill(0, 1));
        x.grind(0, 1);
        Due.due("2: five lots and one", 52, x.fill(0, 1));

        DriftGrinders y = new DriftGrinders();
        for (int i = 1; i <= 4; i++) {
            y.fill(0, 999);
        }
        Due.due("2: one more than 4000", Due.LIMIT, y.fill(0, 5));
        Due.due("2: 4000", 4000, y.fill(1, 4));
        Due.due("2: 4001", Due.LIMIT, y.fill(1, 1));
        Due.due("2: 4001 of another kind", Due.LIMIT, y.fill(0, 1));
        Due.due("2: filled in so far", 4000, y.count(1));
    }

    private static void promise3Grind() {
        DriftGrinders x = new DriftGrinders();
        x.fill(1, 500);
        Due.due("3: all of it stays in the chute", 0, x.grind(1, 40));
        Due.due("3: in the chute", 40, x.count(6));
        Due.due("3: seconds of 40", 4, x.count(0));
        Due.due("3: 41 more", 41, x.grind(1, 41));
        Due.due("3: seconds of 41", 9, x.count(0));
        Due.due("3: in the basket", 41, x.count(7));
        Due.due("3: ground by 1", 81, x.burrOf(1, 3));
        Due.due("3: ground by 0", 0, x.burrOf(0, 3));
        Due.due("3: ground so far", 81, x.count(2));
        Due.due("3: in the hopper", 419, x.count(5));
        Due.due("3: warmth of 1", 20, x.burrOf(1, 1));
        Due.due("3: warmth of 0", 0, x.burrOf(0, 1));
        Due.due("3: the first gap", 300, x.portionOf(1, 0, 3));
        Due.due("3: the second one is of 10 less its warmth / 5", 298, x.portionOf(0, 0, 3));
        Due.due("3: grind(0, 1)", 1, x.grind(0, 1));
        Due.due("3: seconds of 1", 10, x.count(0));
        Due.due("3: warmth of 1 at second 10", 19, x.burrOf(1, 1));
    }

    private static void promise3GrindLotsAndChute() {
        DriftGrinders x = new DriftGrinders();
        x.fill(0, 30);
        x.fill(1, 30);
        x.fill(0, 30);
        Due.due("3: over three lots", 35, x.grind(1, 75));
        Due.due("3: the lot that is left", 15, x.lotOf(0, 1));
        Due.due("3: its kind", 0, x.lotOf(0, 0));
        Due.due("3: no other lot", Due.NOT_FOUND, x.lotOf(1, 1));
        Due.due("3: the first portion is out", 30, x.portionOf(1, 0, 0));
        Due.due("3: of kind 0", 0, x.portionOf(1, 0, 1));
        Due.due("3: the second one in part", 5, x.portionOf(1, 1, 0));
        Due.due("3: of kind 1", 1, x.portionOf(1, 1, 1));
        Due.due("3: what is left of it", 25, x.portionOf(0, 0, 0));
        Due.due("3: the third one", 15, x.portionOf(0, 1, 0));
        Due.due("3: no more in the chute", Due.NOT_FOUND, x.portionOf(0, 2, 0));
        Due.due("3: no more in the basket", Due.NOT_FOUND, x.portionOf(1, 2, 0));
        Due.due("3: one gap for all of them", 300, x.portionOf(0, 1, 3));
    }

    private static void promise3GrindParts() {
        DriftGrinders x = new DriftGrinders();
        x.fill(0, 100);
        x.set(2, 10);
        x.grind(0, 10);
        Due.due("3: 3 out", 3, x.grind(0, 3));
        Due.due("3: 7 out", 7, x.grind(0, 7));
        Due.due("3: parts are never put together", 3, x.portionOf(1, 0, 0));
        Due.due("3: the rest of it", 7, x.portionOf(1, 1, 0));
        Due.due("3: what was ground alike stays apart", 3, x.portionOf(0, 0, 0));
        Due.due("3: behind it", 7, x.portionOf(0, 1, 0));
        x.set(2, 0);
        Due.due("3: the chute stays as it is till a grinding", 10, x.count(6));
        Due.due("3: then all of it comes out", 11, x.grind(0, 1));
        Due.due("3: nothing is left", 0, x.count(6));
        Due.due("3: five portions", 1, x.portionOf(1, 4, 0));
        x.set(2, 100);
        Due.due("3: a chute that holds more", 0, x.grind(0, 79));
        Due.due("3: the hopper is empty", 0, x.count(5));
        Due.due("3: without a lot", Due.NOT_FOUND, x.lotOf(0, 0));
    }

    private static void promise3GrindErrors() {
        DriftGrinders x = new DriftGrinders();
        Due.due("3: of an empty hopper", Due.NOT_POSSIBLE, x.grind(0, 1));
        x.fill(0, 999);
        x.fill(1, 1);
        Due.due("3: grind(-1, 1)", Due.INVALID, x.grind(-1, 1));
        Due.due("3: grind(2, 1)", Due.INVALID, x.grind(2, 1));
        Due.due("3: grind(0, 0)", Due.INVALID, x.grind(0, 0));
        Due.due("3: grind(0, 401)", Due.INVALID, x.grind(0, 401));
        Due.due("3: grind(0, -1)", Due.INVALID, x.grind(0, -1));
        Due.due("3: grind(0, most)", Due.INVALID, x.grind(0, Integer.MAX_VALUE));
        Due.due("3: grind(0, 400)", 360, x.grind(0, 400));
        Due.due("3: 401 in the basket", Due.LIMIT, x.grind(0, 41));
        Due.due("3: 400 in the basket", 40, x.grind(0, 40));
        Due.due("3: one more", Due.LIMIT, x.grind(0, 1));
        x.shot();
        Due.due("3: 400 out at once", 400, x.grind(0, 400));
        Due.due("3: 160 left, 400 in the basket", Due.LIMIT, x.grind(0, 160));
        Due.due("3: too little goes ahead of too much", Due.NOT_POSSIBLE, x.grind(0, 161));
        x.shot();
        Due.due("3: all that is left", 160, x.grind(0, 160));
        Due.due("3: of two lots", 1, x.portionOf(0, 1, 1));
    }

    private static void promise3Warmth() {
        DriftGrinders x = new DriftGrinders();
        x.fill(0, 999);
        x.grind(0, 3);
        Due.due("3: 3 / 4", 0, x.burrOf(0, 1));
        x.grind(0, 4);
        Due.due("3: 4 / 4", 1, x.burrOf(0, 1));
        // second 2 now; 400 warm by 100, and then four coolings pass: 101, 95, 90, 85, 80
        x.grind(0, 400);
        Due.due("3: warm first, then cool", 80, x.burrOf(0, 1));
    }

    private static void promise3WarmthMost() {
        DriftGrinders x = new DriftGrinders();
        x.set(2, 100);
        x.dial(0, 6);
        for (int i = 0; i < 4; i++) {
            x.fill(0, 999);
        }
        for (int i = 0; i < 38; i++) {
            x.grind(0, 100);
            x.purge();
        }
        // each time by 25, and a cooling in the 10 seconds: never more than 300 less 18
        Due.due("3: 300 at most", 282, x.burrOf(0, 1));
        Due.due("3: the gap is 10 at least", 10, x.burrOf(0, 2));
        x.dial(0, 7);
        Due.due("3: 70 - 282 / 5", 14, x.burrOf(0, 2));
        x.grind(0, 9);
        Due.due("3: second 381 has no cooling", 284, x.burrOf(0, 1));
        Due.due("3: the gap ahead of the grinding", 14, x.portionOf(0, 0, 3));
    }

    private static void promise4Dial() {
        DriftGrinders x = new DriftGrinders();
        Due.due("4: dial(0, 1)", 30, x.dial(0, 1));
        Due.due("4: dial(0, 60)", 1, x.dial(0, 60));
        Due.due("4: dial(1, 59)", 30, x.dial(1, 59));
        Due.due("4: dial(0, 60) again", 60, x.dial(0, 60));
        Due.due("4: gap of 0", 600, x.burrOf(0, 2));
        Due.due("4: gap of 1", 590, x.burrOf(1, 2));
        Due.due("4: it is no correction", 0, x.burrOf(0, 4));
        Due.due("4: four changes", 4, x.count(10));
        Due.due("4: dial(0, 0)", Due.INVALID, x.dial(0, 0));
        Due.due("4: dial(0, 61)", Due.INVALID, x.dial(0, 61));
        Due.due("4: dial(-1, 5)", Due.INVALID, x.dial(-1, 5));
        Due.due("4: dial(2, 5)", Due.INVALID, x.dial(2, 5));
        Due.due("4: dial(0, least)", Due.INVALID, x.dial(0, Integer.MIN_VALUE));
        Due.due("4: it stays", 60, x.burrOf(0, 0));
    }

    private static void promise5Rest() {
        DriftGrinders x = new DriftGrinders();
        Due.due("5: cold burrs", 0, x.rest(999));
        Due.due("5: seconds", 999, x.count(0));
        Due.due("5: rest(0)", Due.INVALID, x.rest(0));
        Due.due("5: rest(1000)", Due.INVALID, x.rest(1000));
        Due.due("5: rest(-1)", Due.INVALID, x.rest(-1));
        Due.due("5: rest(most)", Due.INVALID, x.rest(Integer.MAX_VALUE));
        x.rest(1);
        x.fill(0, 800);
        // 1000 seconds; burr 0 gets 100, burr 1 then 15, with 45 seconds between
        x.grind(0, 400);
        Due.due("5: 100, 94, 89, 84, 79", 79, x.burrOf(0, 1));
        x.purge();
        x.shot();
        DriftGrinders y = new DriftGrinders();
        y.fill(0, 999);
        y.grind(0, 128);
        Due.due("5: 32 less 2 at second 10", 30, y.burrOf(0, 1));
        y.grind(1, 64);
        // second 20: both fall once, 30 to 29 and 16 to 15
        Due.due("5: of 30", 29, y.burrOf(0, 1));
        Due.due("5: of 16", 15, y.burrOf(1, 1));
        Due.due("5: second", 20, y.count(0));
        Due.due("5: nine seconds without a cooling", 0, y.rest(9));
        Due.due("5: the second after them cools both", 2, y.rest(1));
        Due.due("5: 20 seconds", 4, y.rest(20));
        Due.due("5: down to 0 and no lower", 26 + 12, y.rest(999));
        Due.due("5: warmth of 0", 0, y.burrOf(0, 1));
        Due.due("5: warmth of 1", 0, y.burrOf(1, 1));
    }

    private static void promise5RestCountsFromSecondZero() {
        DriftGrinders x = new DriftGrinders();
        x.fill(0, 100);
        x.grind(0, 40);
        Due.due("5: second 4", 4, x.count(0));
        Due.due("5: 5 more", 0, x.rest(5));
        Due.due("5: second 10", 1, x.rest(1));
        Due.due("5: to second 19", 0, x.rest(9));
        Due.due("5: second 20 and 30", 2, x.rest(11));
    }

    private static void promise6Shot() {
        DriftGrinders x = new DriftGrinders();
        Due.due("6: of an empty basket", Due.NOT_POSSIBLE, x.shot());
        x.fill(0, 500);
        x.grind(0, 40);
        Due.due("6: the chute is not the basket", Due.NOT_POSSIBLE, x.shot());
        x.grind(0, 100);
        // 40 of gap 300: flow 300, 60 of gap 298: flow 302; (12000 + 18120) / 100 = 301
        Due.due("6: its time", 301, x.shot());
        Due.due("6: 14 seconds of grinding, 30 of the shot", 44, x.count(0));
        Due.due("6: the basket is empty", 0, x.count(7));
        Due.due("6: the chute is not", 40, x.count(6));
        Due.due("6: brewed", 100, x.count(3));
        Due.due("6: shots", 1, x.count(8));
        Due.due("6: empty again", Due.NOT_POSSIBLE, x.shot());
        x.grind(0, 1);
        x.set(3, 300);
        // the hardness is the one of now: 300000 / 298
        Due.due("6: with another hardness", 1006, x.shot());
        Due.due("6: it does not correct", 30, x.burrOf(0, 0));
        Due.due("6: nor count as one", 0, x.burrOf(0, 4));
    }

    private static void promise6ShotOfBoth() {
        DriftGrinders x = new DriftGrinders();
        x.set(2, 0);
        x.fill(0, 50);
        x.fill(1, 50);
        x.grind(1, 50);
        x.grind(0, 50);
        x.shot();
        Due.due("6: both burrs alike", 0, x.shotOf(0, 3));
        Due.due("6: both kinds alike", 0, x.shotOf(0, 4));
        x.fill(0, 50);
        x.fill(1, 51);
        x.grind(0, 50);
        x.grind(1, 51);
        x.shot();
        Due.due("6: more by burr 1", 1, x.shotOf(0, 3));
        Due.due("6: more of kind 1", 1, x.shotOf(0, 4));
        x.fill(1, 20);
        x.fill(0, 10);
        x.fill(1, 5);
        x.fill(0, 30);
        x.grind(0, 20);
        x.grind(1, 10);
        x.grind(0, 5);
        x.grind(1, 30);
        x.shot();
        Due.due("6: 25 by burr 0, 40 by burr 1", 1, x.shotOf(0, 3));
        Due.due("6: 40 of kind 0, 25 of kind 1", 0, x.shotOf(0, 4));
        Due.due("6: of four portions", 4, x.shotOf(0, 7));
    }

    private static void promise6ShotCorrectsItself() {
        DriftGrinders x = new DriftGrinders();
        x.set(5, 1);
        x.set(2, 0);
        x.fill(0, 500);
        x.dial(1, 20);
        x.grind(1, 100);
        // 90000 / 200 = 450; (20 * 450 + 140) / 280 = 32
        Due.due("6: its time", 450, x.shot());
        Due.due("6: its burr is corrected", 32, x.burrOf(1, 0));
        Due.due("6: once", 1, x.burrOf(1, 4));
        Due.due("6: the other one is not", 30, x.burrOf(0, 0));
        Due.due("6: nor counted", 0, x.burrOf(0, 4));
        x.dial(0, 60);
        x.grind(0, 10);
        // 90000 / 600 = 150; (60 * 150 + 140) / 280 = 32
        Due.due("6: too fast", 150, x.shot());
        Due.due("6: a narrower dial", 32, x.burrOf(0, 0));
        x.dial(0, 1);
        x.set(3, 300);
        x.grind(0, 8);
        Due.due("6: 300000 / 10", 30000, x.shot());
        Due.due("6: at most 60", 60, x.burrOf(0, 0));
        x.dial(0, 1);
        x.set(0, 600);
        x.set(3, 30);
        x.grind(0, 8);
        // the warmth has gone, so that the gap is 10: 30000 / 10
        Due.due("6: 30000 / 10", 3000, x.shot());
        Due.due("6: (3000 + 300) / 600", 5, x.burrOf(0, 0));
        x.dial(0, 1);
        x.set(0, 600);
        Due.due("6: near", 0, x.count(9));
    }

    private static void promise6ToleranceEdge() {
        // 90000 / 300 = 300: away by 20
        DriftGrinders x = new DriftGrinders();
        x.set(5, 1);
        x.set(2, 0);
        x.fill(0, 500);
        x.grind(0, 3);
        x.shot();
        Due.due("6: away by the tolerance: no correction", 0, x.burrOf(0, 4));
        Due.due("6: it counts as near", 1, x.count(9));
        x.set(1, 19);
        x.grind(0, 3);
        x.shot();
        Due.due("6: away by more: a correction", 1, x.burrOf(0, 4));
        Due.due("6: (30 * 300 + 140) / 280", 32, x.burrOf(0, 0));
        Due.due("6: it does not count as near", 1, x.count(9));
        x.set(1, 200);
        Due.due("6: it was as it was then", 1, x.count(9));
        x.set(5, 0);
        x.set(1, 0);
        x.set(0, 281);
        x.grind(0, 3);
        Due.due("6: 90000 / 320", 281, x.shot());
        Due.due("6: no tolerance, and on the target", 2, x.count(9));
    }

    private static void promise7Purge() {
        DriftGrinders x = new DriftGrinders();
        Due.due("7: of an empty chute", 0, x.purge());
        Due.due("7: it is a change all the same", 1, x.count(10));
        x.fill(0, 30);
        x.fill(1, 70);
        x.grind(0, 50);
        Due.due("7: purge()", 40, x.purge());
        Due.due("7: the chute", 0, x.count(6));
        Due.due("7: no portion", Due.NOT_FOUND, x.portionOf(0, 0, 0));
        Due.due("7: the basket stays", 10, x.count(7));
        Due.due("7: no second passes", 5, x.count(0));
        x.grind(0, 7);
        Due.due("7: purge() again", 7, x.purge());
        Due.due("7: purged so far", 47, x.count(4));
        Due.due("7: it is no grinding", 57, x.count(2));
    }

    private static void promise8Correct() {
        DriftGrinders x = new DriftGrinders();
        Due.due("8: without a shot", Due.NOT_POSSIBLE, x.correct(0));
        Due.due("8: correct(2) without a shot", Due.INVALID, x.correct(2));
        Due.due("8: correct(-1) without a shot", Due.INVALID, x.correct(-1));
        x.set(2, 0);
        x.fill(0, 500);
        x.dial(0, 15);
        x.grind(0, 3);
        Due.due("8: 90000 / 150", 600, x.shot());
        Due.due("8: (15 * 600 + 140) / 280", 32, x.correct(0));
        Due.due("8: (32 * 600 + 140) / 280 is more than 60", 60, x.correct(0));
        Due.due("8: to the same dial", 60, x.correct(0));
        Due.due("8: it counts too", 3, x.burrOf(0, 4));
        Due.due("8: (30 * 600 + 140) / 280", 60, x.correct(1));
        Due.due("8: the other burr", 1, x.burrOf(1, 4));
        Due.due("8: no second passes", 61, x.count(0));
        x.dial(1, 20);
        x.set(0, 599);
        Due.due("8: the target is the one of now: (20 * 600 + 299) / 599", 20, x.correct(1));
        x.grind(1, 3);
        Due.due("8: 90000 / 200", 450, x.shot());
        Due.due("8: by the latest shot: (60 * 450 + 299) / 599", 45, x.correct(0));
        Due.due("8: correct(2)", Due.INVALID, x.correct(2));
        Due.due("8: correct(least)", Due.INVALID, x.correct(Integer.MIN_VALUE));
    }

    private static void promise8CorrectEdges() {
        DriftGrinders x = new DriftGrinders();
        x.set(2, 0);
        x.set(3, 30);
        x.fill(0, 100);
        x.dial(0, 60);
        x.grind(0, 1);
        Due.due("8: 30000 / 600", 50, x.shot());
        x.dial(1, 1);
        x.set(0, 600);
        Due.due("8: 1 at least", 1, x.correct(1));
        x.set(0, 100);
        Due.due("8: half is rounded up: (1 * 50 + 50) / 100", 1, x.correct(1));
        x.dial(1, 3);
        Due.due("8: (3 * 50 + 50) / 100", 2, x.correct(1));
        x.set(0, 101);
        x.dial(1, 3);
        Due.due("8: (3 * 50 + 50) / 101", 1, x.correct(1));
        x.set(0, 103);
        x.dial(1, 5);
        Due.due("8: (5 * 50 + 51) / 103", 2, x.correct(1));
    }

    private static void promise9Set() {
        int[] least = {100, 0, 0, 30, 30, 0};
        int[] most = {600, 200, 100, 300, 300, 1};
        int[] first = {280, 20, 40, 90, 120, 0};
        DriftGrinders x = new DriftGrinders();
        for (int what = 0; what < 6; what++) {
            String name = "9: set(" + what + ", ";
            Due.due(name + "least - 1)", Due.INVALID, x.set(what, least[what] - 1));
            Due.due(name + "most + 1)", Due.INVALID, x.set(what, most[what] + 1));
            Due.due(name + "least int)", Due.INVALID, x.set(what, Integer.MIN_VALUE));
            Due.due(name + "most int)", Due.INVALID, x.set(what, Integer.MAX_VALUE));
            Due.due(name + "least)", first[what], x.set(what, least[what]));
            Due.due(name + "most)", least[what], x.set(what, most[what]));
            Due.due(name + "most) again", most[what], x.set(what, most[what]));
            Due.due("9: count(20 + " + what + ")", most[what], x.count(20 + what));
        }
        Due.due("9: set(6, 0)", Due.INVALID, x.set(6, 0));
        Due.due("9: set(-1, 0)", Due.INVALID, x.set(-1, 0));
        Due.due("9: set(-1, 100)", Due.INVALID, x.set(-1, 100));
        Due.due("9: set(most, 100)", Due.INVALID, x.set(Integer.MAX_VALUE, 100));
        Due.due("9: set(least, 100)", Due.INVALID, x.set(Integer.MIN_VALUE, 100));
    }

    private static void promise9SettingsWork() {
        DriftGrinders x = new DriftGrinders();
        x.fill(0, 10);
        x.fill(1, 10);
        x.set(3, 60);
        x.set(4, 150);
        x.grind(0, 20);
        Due.due("9: the hardness of kind 0", 200, x.portionOf(0, 0, 4));
        Due.due("9: the hardness of kind 1", 500, x.portionOf(0, 1, 4));
        x.set(2, 0);
        Due.due("9: no seconds pass", 2, x.count(0));
        x.fill(1, 1);
        Due.due("9: what the chute holds", 21, x.grind(0, 1));
    }

    private static void errorsChangeNothing() {
        DriftGrinders x = new DriftGrinders();
        x.fill(0, 500);
        x.grind(0, 400);
        x.rest(3);
        int states = x.count(10);
        int second = x.count(0);
        x.fill(0, 1000);
        x.grind(0, 101);
        x.grind(0, 100);
        x.dial(0, 99);
        x.rest(0);
        x.correct(0);
        x.set(0, 5);
        x.type(31);
        Due.due("errors are no changes", states, x.count(10));
        Due.due("no second passes by them", second, x.count(0));
        Due.due("the hopper stays", 100, x.count(5));
        Due.due("the basket stays", 360, x.count(7));
        Due.due("the dial stays", 30, x.burrOf(0, 0));
        Due.due("the text stays", 0, x.count(11));
    }
}
