/** Promises 10 to 20: what there is, what would be, accounts, and undoing. */
public final class QueriesTest {
    private QueriesTest() {
    }

    public static void main(String[] args) {
        promise10BurrOf();
        promise11LotOf();
        promise12PortionOf();
        promise13ShotOf();
        promise13TwelveAreKept();
        promise14Best();
        promise15WouldTake();
        promise15Errors();
        promise16DialFor();
        promise16WarmAndTies();
        promise17Stale();
        promise18CoolAfter();
        promise19Count();
        promise20Undo();
        promise20UndoRestoresAll();
        queriesChangeNothing();
        Due.end();
    }

    private static void promise10BurrOf() {
        DriftGrinders x = new DriftGrinders();
        x.fill(0, 999);
        x.dial(1, 31);
        x.grind(1, 36);
        x.grind(1, 3);
        Due.due("10: dial", 31, x.burrOf(1, 0));
        Due.due("10: warmth", 9, x.burrOf(1, 1));
        Due.due("10: 310 - 9 / 5", 309, x.burrOf(1, 2));
        Due.due("10: ground", 39, x.burrOf(1, 3));
        Due.due("10: corrected", 0, x.burrOf(1, 4));
        Due.due("10: the other dial", 30, x.burrOf(0, 0));
        Due.due("10: the other warmth", 0, x.burrOf(0, 1));
        Due.due("10: the other gap", 300, x.burrOf(0, 2));
        x.grind(0, 5);
        x.shot();
        x.correct(0);
        Due.due("10: corrected once", 1, x.burrOf(0, 4));
        x.dial(0, 1);
        Due.due("10: gap at dial 1", 10, x.burrOf(0, 2));
        for (int burr : new int[] {-1, 2, Integer.MAX_VALUE, Integer.MIN_VALUE}) {
            Due.due("10: burrOf(" + burr + ", 0)", Due.INVALID, x.burrOf(burr, 0));
        }
        for (int what : new int[] {-1, 5, Integer.MAX_VALUE, Integer.MIN_VALUE}) {
            Due.due("10: burrOf(0, " + what + ")", Due.INVALID, x.burrOf(0, what));
        }
    }

    private static void promise11LotOf() {
        DriftGrinders x = new DriftGrinders();
        for (int lot = 0; lot < 6; lot++) {
            x.fill(1 - lot % 2, 11 + lot);
        }
        for (int lot = 0; lot < 6; lot++) {
            Due.due("11: kind of " + lot, 1 - lot % 2, x.lotOf(lot, 0));
            Due.due("11: amount of " + lot, 11 + lot, x.lotOf(lot, 1));
        }
        Due.due("11: lotOf(6, 0)", Due.NOT_FOUND, x.lotOf(6, 0));
        Due.due("11: lotOf(most, 1)", Due.NOT_FOUND, x.lotOf(Integer.MAX_VALUE, 1));
        Due.due("11: lotOf(-1, 0)", Due.INVALID, x.lotOf(-1, 0));
        Due.due("11: lotOf(least, 0)", Due.INVALID, x.lotOf(Integer.MIN_VALUE, 0));
        Due.due("11: lotOf(0, -1)", Due.INVALID, x.lotOf(0, -1));
        Due.due("11: lotOf(0, 2)", Due.INVALID, x.lotOf(0, 2));
        Due.due("11: lotOf(6, 2)", Due.INVALID, x.lotOf(6, 2));
        x.grind(0, 24);
        Due.due("11: the first one is another now", 1, x.lotOf(0, 0));
        Due.due("11: less of it", 12, x.lotOf(0, 1));
        Due.due("11: the last one", 16, x.lotOf(3, 1));
        Due.due("11: lotOf(4, 1)", Due.NOT_FOUND, x.lotOf(4, 1));
    }

    private static void promise12PortionOf() {
        DriftGrinders x = new DriftGrinders();
        x.fill(1, 20);
        x.fill(0, 50);
        x.dial(1, 25);
        x.grind(1, 30);
        x.grind(0, 25);
        int[][] chute = {{5, 0, 1, 250, 360}, {10, 0, 1, 250, 360}, {25, 0, 0, 300, 300}};
        int[][] basket = {{15, 1, 1, 250, 480}, {5, 1, 1, 250, 480}, {5, 0, 1, 250, 360}};
        // 20 of kind 1, 10 and 25 of kind 0: the chute holds 40, so that 15 came out
        Due.due("12: in the basket", 15, x.count(7));
        for (int what = 0; what < 5; what++) {
            Due.due("12: portionOf(1, 0, " + what + ")", basket[0][what], x.portionOf(1, 0, what));
            Due.due("12: portionOf(0, 1, " + what + ")", chute[1][what], x.portionOf(0, 1, what));
            Due.due("12: portionOf(0, 2, " + what + ")", chute[2][what], x.portionOf(0, 2, what));
        }
        Due.due("12: the parted one", 5, x.portionOf(0, 0, 0));
        Due.due("12: of kind 1", 1, x.portionOf(0, 0, 1));
        x.set(3, 30);
        Due.due("12: the flow goes by the hardness of now", 120, x.portionOf(0, 1, 4));
        x.dial(1, 60);
        Due.due("12: the gap is the one of then", 250, x.portionOf(0, 1, 3));
        Due.due("12: no fourth one", Due.NOT_FOUND, x.portionOf(0, 3, 0));
        Due.due("12: no second one", Due.NOT_FOUND, x.portionOf(1, 1, 0));
        Due.due("12: portionOf(1, most, 4)", Due.NOT_FOUND, x.portionOf(1, Integer.MAX_VALUE, 4));
        Due.due("12: portionOf(2, 0, 0)", Due.INVALID, x.portionOf(2, 0, 0));
        Due.due("12: portionOf(-1, 0, 0)", Due.INVALID, x.portionOf(-1, 0, 0));
        Due.due("12: portionOf(0, -1, 0)", Due.INVALID, x.portionOf(0, -1, 0));
        Due.due("12: portionOf(0, 0, -1)", Due.INVALID, x.portionOf(0, 0, -1));
        Due.due("12: portionOf(0, 0, 5)", Due.INVALID, x.portionOf(0, 0, 5));
        Due.due("12: portionOf(0, 9, 5)", Due.INVALID, x.portionOf(0, 9, 5));
    }

    private static void promise13ShotOf() {
        DriftGrinders x = new DriftGrinders();
        x.set(2, 0);
        x.fill(1, 60);
        x.fill(0, 200);
        x.rest(7);
        x.grind(1, 50);
        x.grind(0, 30);
        x.shot();
        x.grind(0, 22);
        x.shot();
        // 50 of kind 1 by burr 1, 10 of kind 1 and 20 of kind 0 by burr 0, all of gap 300
        int[] earlier = {0, (60 * 400 + 20 * 300) / 80, 80, 1, 1, 95, 15, 3};
        // burr 0 got 7 and fell to 4 in the seconds 20 to 52
        int[] later = {1, 300, 22, 0, 0, 20, 55, 1};
        for (int what = 0; what < 8; what++) {
            Due.due("13: shotOf(1, " + what + ")", earlier[what], x.shotOf(1, what));
            Due.due("13: shotOf(0, " + what + ")", later[what], x.shotOf(0, what));
        }
        x.set(0, 400);
        Due.due("13: away from the target of now", 100, x.shotOf(0, 5));
        Due.due("13: away from the target of now", 25, x.shotOf(1, 5));
        Due.due("13: shotOf(2, 0)", Due.NOT_FOUND, x.shotOf(2, 0));
        Due.due("13: shotOf(most, 7)", Due.NOT_FOUND, x.shotOf(Integer.MAX_VALUE, 7));
        Due.due("13: shotOf(-1, 0)", Due.INVALID, x.shotOf(-1, 0));
        Due.due("13: shotOf(0, -1)", Due.INVALID, x.shotOf(0, -1));
        Due.due("13: shotOf(0, 8)", Due.INVALID, x.shotOf(0, 8));
        Due.due("13: shotOf(5, 8)", Due.INVALID, x.shotOf(5, 8));
    }

    private static void promise13TwelveAreKept() {
        DriftGrinders x = new DriftGrinders();
        x.set(2, 0);
        x.fill(0, 999);
        for (int i = 0; i < 12; i++) {
            x.grind(0, i + 1);
            x.shot();
        }
        Due.due("13: the earliest one", 0, x.shotOf(11, 0));
        x.grind(0, 13);
        x.shot();
        Due.due("13: twelve are kept", 1, x.shotOf(11, 0));
        Due.due("13: its amount", 2, x.shotOf(11, 2));
        Due.due("13: the latest one", 12, x.shotOf(0, 0));
        Due.due("13: its amount", 13, x.shotOf(0, 2));
        Due.due("13: no thirteenth", Due.NOT_FOUND, x.shotOf(12, 0));
        Due.due("13: all are counted", 13, x.count(8));
    }

    private static void shotOfFlow(DriftGrinders x, int hardness) {
        x.set(3, hardness);
        x.grind(0, 3);
        x.shot();
    }

    private static void promise14Best() {
        DriftGrinders x = new DriftGrinders();
        Due.due("14: without a shot", Due.NOT_FOUND, x.best(0));
        Due.due("14: best(-1)", Due.INVALID, x.best(-1));
        x.set(2, 0);
        x.fill(0, 999);
        x.set(0, 300);
        // times 300, 290, 310, 250, 290 with gap 300
        int[] hardness = {90, 87, 93, 75, 87};
        for (int h : hardness) {
            shotOfFlow(x, h);
        }
        int[] order = {0, 4, 2, 1, 3};
        for (int place = 0; place < 5; place++) {
            Due.due("14: best(" + place + ")", order[place], x.best(place));
        }
        Due.due("14: best(5)", Due.NOT_FOUND, x.best(5));
        Due.due("14: best(most)", Due.NOT_FOUND, x.best(Integer.MAX_VALUE));
        Due.due("14: best(least)", Due.INVALID, x.best(Integer.MIN_VALUE));
        x.set(0, 250);
        Due.due("14: by the target of now", 3, x.best(0));
        Due.due("14: the later one first", 4, x.best(1));
        Due.due("14: then the earlier one", 1, x.best(2));
        Due.due("14: the farthest one", 2, x.best(4));
        for (int i = 0; i < 8; i++) {
            shotOfFlow(x, 300);
        }
        Due.due("14: shot 0 is not kept any more", 12, x.best(4));
        Due.due("14: twelve places", 5, x.best(11));
        Due.due("14: no thirteenth place", Due.NOT_FOUND, x.best(12));
    }

    private static void promise15WouldTake() {
        DriftGrinders x = new DriftGrinders();
        x.fill(0, 60);
        x.fill(1, 400);
        Due.due("15: 60 of flow 300", 300, x.wouldTake(0, 100));
        Due.due("15: 60 of flow 300, 60 of flow 400", 350, x.wouldTake(1, 160));
        Due.due("15: the hopper stays", 460, x.count(5));
        Due.due("15: no second passes", 0, x.count(0));
        Due.due("15: the history stays", 2, x.count(10));
        Due.due("15: no warmth", 0, x.burrOf(1, 1));
        x.grind(0, 100);
        Due.due("15: with what is in basket and chute", (60 * 300 + 50 * 400) / 110, x.wouldTake(1, 50));
        x.dial(1, 40);
        Due.due("15: by the gap of now", (60 * 300 + 40 * 400 + 20 * 300) / 120, x.wouldTake(1, 60));
        x.set(4, 60);
        Due.due("15: by the hardness of now", (60 * 300 + 40 * 200 + 20 * 150) / 120, x.wouldTake(1, 60));
        int told = x.wouldTake(0, 77);
        x.grind(0, 77);
        Due.due("15: as the shot then takes", told, x.shot());
    }

    private static void promise15Errors() {
        DriftGrinders x = new DriftGrinders();
        Due.due("15: of an empty hopper", Due.NOT_POSSIBLE, x.wouldTake(0, 1));
        x.fill(0, 999);
        Due.due("15: wouldTake(2, 1)", Due.INVALID, x.wouldTake(2, 1));
        Due.due("15: wouldTake(-1, 1)", Due.INVALID, x.wouldTake(-1, 1));
        Due.due("15: wouldTake(0, 0)", Due.INVALID, x.wouldTake(0, 0));
        Due.due("15: wouldTake(0, 401)", Due.INVALID, x.wouldTake(0, 401));
        Due.due("15: wouldTake(0, least)", Due.INVALID, x.wouldTake(0, Integer.MIN_VALUE));
        Due.due("15: the basket would be empty", Due.NOT_POSSIBLE, x.wouldTake(0, 40));
        Due.due("15: it would have 1", 300, x.wouldTake(0, 41));
        x.grind(0, 400);
        Due.due("15: 400 in the basket", 300, x.wouldTake(0, 40));
        Due.due("15: 401 in the basket", Due.LIMIT, x.wouldTake(0, 41));
        x.grind(0, 40);
        x.shot();
        x.grind(0, 360);
        x.shot();
        Due.due("15: 199 left", 199, x.count(5));
        Due.due("15: the hopper has less", Due.NOT_POSSIBLE, x.wouldTake(0, 200));
        x.purge();
        Due.due("15: the chute holds it", Due.NOT_POSSIBLE, x.wouldTake(1, 40));
        x.fill(0, 400);
        x.grind(1, 400);
        Due.due("15: less than that, and too much", Due.NOT_POSSIBLE, x.wouldTake(1, 200));
    }

    private static void promise16DialFor() {
        DriftGrinders x = new DriftGrinders();
        Due.due("16: 90000 / 320 = 281", 32, x.dialFor(0, 0));
        Due.due("16: 120000 / 430 = 279", 43, x.dialFor(1, 1));
        x.set(0, 600);
        Due.due("16: 90000 / 150", 15, x.dialFor(1, 0));
        Due.due("16: 120000 / 200", 20, x.dialFor(0, 1));
        x.set(0, 100);
        Due.due("16: 150 is as near as it comes", 60, x.dialFor(0, 0));
        x.set(3, 30);
        Due.due("16: 30000 / 300", 30, x.dialFor(0, 0));
        x.set(0, 600);
        Due.due("16: 30000 / 50", 5, x.dialFor(0, 0));
        x.dial(0, 60);
        Due.due("16: it does not go by the dial", 5, x.dialFor(0, 0));
        Due.due("16: dialFor(2, 0)", Due.INVALID, x.dialFor(2, 0));
        Due.due("16: dialFor(-1, 0)", Due.INVALID, x.dialFor(-1, 0));
        Due.due("16: dialFor(0, 2)", Due.INVALID, x.dialFor(0, 2));
        Due.due("16: dialFor(0, -1)", Due.INVALID, x.dialFor(0, -1));
        Due.due("16: the dial stays", 60, x.burrOf(0, 0));
    }

    private static void promise16WarmAndTies() {
        DriftGrinders x = new DriftGrinders();
        x.fill(0, 999);
        x.grind(0, 400);
        // 100 less four coolings: 94, 89, 84, 79; each gap is less by 15
        Due.due("16: warmth", 79, x.burrOf(0, 1));
        Due.due("16: 90000 / 325 = 276 and 90000 / 315 = 285", 34, x.dialFor(0, 0));
        Due.due("16: the other burr is cold", 32, x.dialFor(1, 0));
        x.set(3, 30);
        x.set(0, 600);
        // gaps 10, 10, 15, 25, 35, 45, 55: 30000 / 45 = 666, 30000 / 55 = 545
        Due.due("16: 545 is nearer than 666", 7, x.dialFor(0, 0));
        DriftGrinders y = new DriftGrinders();
        y.set(3, 36);
        y.set(0, 540);
        // 36000 / 60 = 600 and 36000 / 75 would be 480; 36000 / 70 = 514, nearer
        Due.due("16: 514", 7, y.dialFor(0, 0));
        y.set(0, 557);
        Due.due("16: 600 and 514 are as near: the lowest dial", 6, y.dialFor(0, 0));
        y.set(0, 558);
        Due.due("16: 600", 6, y.dialFor(0, 0));
        y.set(0, 556);
        Due.due("16: 514 again", 7, y.dialFor(0, 0));
    }

    private static void promise17Stale() {
        DriftGrinders x = new DriftGrinders();
        Due.due("17: stale(2)", Due.INVALID, x.stale(2));
        Due.due("17: stale(-1)", Due.INVALID, x.stale(-1));
        Due.due("17: of an empty hopper", Due.NOT_POSSIBLE, x.stale(0));
        x.set(2, 100);
        x.fill(0, 10);
        Due.due("17: of an empty chute", 0, x.stale(0));
        x.fill(1, 20);
        x.fill(0, 100);
        x.grind(0, 3);
        Due.due("17: all alike", 0, x.stale(0));
        Due.due("17: of the other burr", 3, x.stale(1));
        x.dial(0, 31);
        Due.due("17: of another gap", 3, x.stale(0));
        x.dial(0, 30);
        Due.due("17: the gap is the same again", 0, x.stale(0));
        x.grind(1, 3);
        Due.due("17: up to the one of the other burr", 6, x.stale(0));
        Due.due("17: the first one is stale for burr 1", 3, x.stale(1));
        x.grind(0, 3);
        Due.due("17: the last one is not stale", 6, x.stale(0));
        Due.due("17: those between count too", 9, x.stale(1));
        x.grind(0, 1);
        Due.due("17: the first lot is of the other kind", 10, x.stale(0));
        x.grind(0, 3);
        Due.due("17: and now some of it is there", 10, x.stale(0));
        x.grind(0, 17);
        Due.due("17: kind 0 again", 30, x.stale(0));
        // warmth 4 of burr 0 leaves its gap as it is, warmth 5 does not
        DriftGrinders y = new DriftGrinders();
        y.fill(0, 200);
        y.grind(0, 19);
        Due.due("17: warmth 4", 0, y.stale(0));
        y.grind(0, 4);
        Due.due("17: warmth 5", 23, y.stale(0));
        y.rest(10);
        Due.due("17: warmth 4 again", 0, y.stale(0));
        y.grind(0, 177);
        Due.due("17: the hopper is empty", Due.NOT_POSSIBLE, y.stale(0));
        Due.due("17: stale(2) goes first", Due.INVALID, y.stale(2));
    }

    private static void promise18CoolAfter() {
        DriftGrinders x = new DriftGrinders();
        Due.due("18: cold already", 0, x.coolAfter(0, 0));
        Due.due("18: coolAfter(0, 300)", 0, x.coolAfter(0, 300));
        x.fill(0, 999);
        x.grind(0, 128);
        // second 13; 32 fell to 30 at second 10
        Due.due("18: as warm as that already", 0, x.coolAfter(0, 30));
        Due.due("18: at second 20", 7, x.coolAfter(0, 29));
        Due.due("18: at second 310", 297, x.coolAfter(0, 0));
        Due.due("18: the other burr", 0, x.coolAfter(1, 0));
        x.rest(7);
        Due.due("18: at a second that cools, the next one counts", 10, x.coolAfter(0, 28));
        x.rest(9);
        Due.due("18: one second ahead of it", 1, x.coolAfter(0, 28));
        x.purge();
        x.grind(1, 350);
        // second 64; 87 less four coolings: 82, 77, 73, 69; then 65, 61
        Due.due("18: warmth of 1", 69, x.burrOf(1, 1));
        Due.due("18: 65 is the first below 69", 6, x.coolAfter(1, 68));
        Due.due("18: 65", 6, x.coolAfter(1, 65));
        Due.due("18: 61 is the first below 65", 16, x.coolAfter(1, 64));
        int seconds = x.coolAfter(1, 5);
        Due.due("18: no second passes", 64, x.count(0));
        x.rest(seconds - 1);
        Due.due("18: one second earlier", 6, x.burrOf(1, 1));
        x.rest(1);
        Due.due("18: then", 5, x.burrOf(1, 1));
        Due.due("18: coolAfter(2, 0)", Due.INVALID, x.coolAfter(2, 0));
        Due.due("18: coolAfter(-1, 0)", Due.INVALID, x.coolAfter(-1, 0));
        Due.due("18: coolAfter(0, -1)", Due.INVALID, x.coolAfter(0, -1));
        Due.due("18: coolAfter(0, 301)", Due.INVALID, x.coolAfter(0, 301));
        Due.due("18: coolAfter(0, least)", Due.INVALID, x.coolAfter(0, Integer.MIN_VALUE));
    }

    private static void promise19Count() {
        DriftGrinders x = new DriftGrinders();
        x.fill(0, 300);
        x.fill(1, 100);
        x.grind(0, 130);
        x.shot();
        x.grind(1, 25);
        x.purge();
        x.grind(0, 35);
        x.grind(0, 10);
        Due.write(x, "abc");
        // 13 + 30 + 3 + 4 + 1 seconds; 90 out, 25 out with 40 purged, then 5 out
        int[] due = {51, 400, 200, 90, 40, 200, 40, 30, 1, 1, 4, 3};
        for (int what = 0; what < due.length; what++) {
            Due.due("19: count(" + what + ")", due[what], x.count(what));
        }
        for (int what : new int[] {-1, 12, 19, 26, Integer.MAX_VALUE, Integer.MIN_VALUE}) {
            Due.due("19: count(" + what + ")", Due.INVALID, x.count(what));
        }
    }

    private static void promise20Undo() {
        DriftGrinders x = new DriftGrinders();
        Due.due("20: without a change", Due.NOT_POSSIBLE, x.undo());
        for (int i = 1; i <= 6; i++) {
            x.fill(0, i);
        }
        Due.due("20: four states at most", 4, x.count(10));
        Due.due("20: undo()", 3, x.undo());
        Due.due("20: 1 + 2 + 3 + 4 + 5", 15, x.count(5));
        Due.due("20: undo()", 2, x.undo());
        Due.due("20: 1 + 2 + 3 + 4", 10, x.count(5));
        x.fill(0, 100);
        Due.due("20: a new change", 3, x.count(10));
        Due.due("20: undo()", 2, x.undo());
        Due.due("20: as before it", 10, x.count(5));
        Due.due("20: undo()", 1, x.undo());
        Due.due("20: undo()", 0, x.undo());
        Due.due("20: 1 + 2", 3, x.count(5));
        Due.due("20: no more", Due.NOT_POSSIBLE, x.undo());
        Due.due("20: it stays", 3, x.count(5));
        for (int i = 1; i <= 9; i++) {
            x.fill(0, i);
            x.undo();
        }
        Due.due("20: one by one", 3, x.count(5));
        Due.due("20: no state left", 0, x.count(10));
    }

    private static void promise20UndoRestoresAll() {
        DriftGrinders x = new DriftGrinders();
        x.set(5, 1);
        x.fill(0, 300);
        x.fill(1, 300);
        x.dial(0, 20);
        x.grind(0, 350);
        Due.write(x, "w1;");
        String before = Facts.of(x);
        x.shot();
        Due.due("20: shots", 1, x.count(8));
        Due.due("20: undo of a shot", 3, x.undo());
        Due.due("20: all as before the shot", 1, before.equals(Facts.of(x)) ? 1 : 0);
        String[] orders = {"purge", "grind", "rest", "set", "dial", "play", "fill"};
        for (int i = 0; i < orders.length; i++) {
            change(x, i);
            Due.due("20: something is another", 0, before.equals(Facts.of(x)) ? 1 : 0);
            x.undo();
            Due.due("20: all as before " + orders[i], 1, before.equals(Facts.of(x)) ? 1 : 0);
        }
        x.shot();
        String then = Facts.of(x);
        x.correct(1);
        x.undo();
        Due.due("20: all as before a correction", 1, then.equals(Facts.of(x)) ? 1 : 0);
        x.rest(1);
        x.clearText();
        Due.write(x, "hello");
        x.undo();
        Due.due("20: the text stays as it is", 5, x.count(11));
    }

    private static void change(DriftGrinders x, int which) {
        switch (which) {
            case 0:
                x.purge();
                break;
            case 1:
                x.grind(1, 50);
                break;
            case 2:
                x.rest(100);
                break;
            case 3:
                x.set(3, 100);
                break;
            case 4:
                x.dial(1, 7);
                break;
            case 5:
                x.play();
                break;
            default:
                x.fill(1, 3);
        }
    }

    private static void queriesChangeNothing() {
        DriftGrinders x = new DriftGrinders();
        x.fill(0, 300);
        x.grind(0, 100);
        Due.write(x, "g0,50;s;p;w20;b1,7;f1,9;w0;");
        String before = Facts.of(x);
        int states = x.count(10);
        x.wouldTake(0, 100);
        x.wouldTake(0, 400);
        x.dialFor(1, 1);
        x.stale(1);
        x.coolAfter(0, 0);
        Due.due("23: the fault", 24, x.fault(0));
        x.best(0);
        Due.due("24: play()", Due.NOT_POSSIBLE, x.play());
        Due.due("queries change nothing", 1, before.equals(Facts.of(x)) ? 1 : 0);
        Due.due("nor are they changes", states, x.count(10));
    }
}
