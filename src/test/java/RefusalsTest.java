/**
 * "A call that returns an error changes nothing", "If several errors apply to a call, INVALID_ARGUMENT is
 * returned rather than NOT_POSSIBLE, NOT_POSSIBLE rather than LIMIT_REACHED, and LIMIT_REACHED rather than
 * NOT_FOUND": each error of each call, and all that stands behind it. What only asks changes nothing either.
 */
public final class RefusalsTest {
    private static final int LEAST = Integer.MIN_VALUE;
    private static final int MOST = Integer.MAX_VALUE;

    private RefusalsTest() {
    }

    public static void main(String[] args) {
        fill();
        grind();
        dial();
        rest();
        shot();
        correct();
        set();
        burrOfAndLotOf();
        portionOf();
        shotOfAndBest();
        wouldTake();
        dialForAndStale();
        coolAfterAndCount();
        undo();
        type();
        faultAndPlay();
        answersOfQueries();
        Due.end();
    }

    /** Something of all, a full history, and a text with a fault at its end. */
    private static void busy(DriftGrinders x) {
        x.fill(1, 150);
        x.fill(0, 300);
        x.dial(1, 25);
        x.grind(1, 120);
        x.shot();
        x.correct(0);
        x.grind(0, 60);
        x.rest(7);
        x.grind(1, 9);
        Due.write(x, "f0,5;w3;p;w0;");
    }

    /** Two states in the history, so that one more would show as the third one. */
    private static void nearlyNew(DriftGrinders x) {
        x.fill(0, 30);
        x.rest(4);
        Due.write(x, "w1;s");
    }

    private static void fullHopper(DriftGrinders x) {
        for (int i = 0; i < 4; i++) {
            x.fill(0, 999);
        }
        x.fill(1, 4);
    }

    private static void sixLots(DriftGrinders x) {
        for (int lot = 0; lot < 6; lot++) {
            x.fill(lot % 2, 5);
        }
    }

    /** 400 in the basket, 40 in the chute, 60 in the hopper. */
    private static void fullBasket(DriftGrinders x) {
        x.fill(0, 500);
        x.grind(0, 400);
        x.grind(1, 40);
    }

    /** 1 in the basket, 39 and 1 in the chute, the hopper empty. */
    private static void emptyHopper(DriftGrinders x) {
        x.fill(1, 41);
        x.grind(0, 40);
        x.grind(0, 1);
    }

    private static void fullText(DriftGrinders x) {
        x.rest(3);
        Due.write(x, "w1;w1;w1;w1;w1;w1;w1;w1;w1;w1;w1;w1;w1;w1;w1;w1;w1;w1;w1;s;x");
    }

    private static void nothing(DriftGrinders x) {
        Due.due("a new object", 0, x.count(10));
    }

    private static void refused(String name, int error, Twins.Recipe recipe, Twins.Call call) {
        Twins.leavesAll(name, error, recipe, call);
    }

    /** INVALID_ARGUMENT, whatever else is the case. */
    private static void invalid(String name, Twins.Call call) {
        refused(name + ", new", Due.INVALID, RefusalsTest::nothing, call);
        refused(name + ", nearly new", Due.INVALID, RefusalsTest::nearlyNew, call);
        refused(name + ", busy", Due.INVALID, RefusalsTest::busy, call);
        refused(name + ", hopper full", Due.INVALID, RefusalsTest::fullHopper, call);
        refused(name + ", six lots", Due.INVALID, RefusalsTest::sixLots, call);
        refused(name + ", basket full", Due.INVALID, RefusalsTest::fullBasket, call);
        refused(name + ", hopper empty", Due.INVALID, RefusalsTest::emptyHopper, call);
        refused(name + ", text full", Due.INVALID, RefusalsTest::fullText, call);
    }

    private static void fill() {
        for (int kind : new int[] {-1, 2, LEAST, MOST}) {
            invalid("2: fill(" + kind + ", 1)", x -> x.fill(kind, 1));
            invalid("2: fill(" + kind + ", 1000)", x -> x.fill(kind, 1000));
        }
        for (int amount : new int[] {-1, 0, 1000, LEAST, MOST}) {
            invalid("2: fill(0, " + amount + ")", x -> x.fill(0, amount));
            invalid("2: fill(1, " + amount + ")", x -> x.fill(1, amount));
        }
        refused("2: a seventh lot", Due.LIMIT, RefusalsTest::sixLots, x -> x.fill(0, 1));
        refused("2: a seventh lot", Due.LIMIT, RefusalsTest::sixLots, x -> x.fill(0, 999));
        refused("2: 4001 in the last lot", Due.LIMIT, RefusalsTest::fullHopper, x -> x.fill(1, 1));
        refused("2: 4001 in another lot", Due.LIMIT, RefusalsTest::fullHopper, x -> x.fill(0, 1));
        refused("2: 4999", Due.LIMIT, RefusalsTest::fullHopper, x -> x.fill(1, 999));
    }

    private static void grind() {
        for (int burr : new int[] {-1, 2, LEAST, MOST}) {
            invalid("3: grind(" + burr + ", 1)", x -> x.grind(burr, 1));
            invalid("3: grind(" + burr + ", 401)", x -> x.grind(burr, 401));
        }
        for (int amount : new int[] {-1, 0, 401, LEAST, MOST}) {
            invalid("3: grind(0, " + amount + ")", x -> x.grind(0, amount));
            invalid("3: grind(1, " + amount + ")", x -> x.grind(1, amount));
        }
        refused("3: of nothing", Due.NOT_POSSIBLE, RefusalsTest::nothing, x -> x.grind(0, 1));
        refused("3: the hopper is empty", Due.NOT_POSSIBLE, RefusalsTest::emptyHopper, x -> x.grind(0, 1));
        refused("3: the hopper has 30", Due.NOT_POSSIBLE, RefusalsTest::nearlyNew, x -> x.grind(1, 31));
        refused("3: less, and too much", Due.NOT_POSSIBLE, RefusalsTest::fullBasket, x -> x.grind(1, 61));
        refused("3: 401 in the basket", Due.LIMIT, RefusalsTest::fullBasket, x -> x.grind(0, 1));
        refused("3: 460 in the basket", Due.LIMIT, RefusalsTest::fullBasket, x -> x.grind(1, 60));
    }

    private static void dial() {
        for (int burr : new int[] {-1, 2, LEAST, MOST}) {
            invalid("4: dial(" + burr + ", 1)", x -> x.dial(burr, 1));
            invalid("4: dial(" + burr + ", 61)", x -> x.dial(burr, 61));
        }
        for (int dial : new int[] {-1, 0, 61, LEAST, MOST}) {
            invalid("4: dial(0, " + dial + ")", x -> x.dial(0, dial));
            invalid("4: dial(1, " + dial + ")", x -> x.dial(1, dial));
        }
    }

    private static void rest() {
        for (int seconds : new int[] {-10, -1, 0, 1000, LEAST, MOST}) {
            invalid("5: rest(" + seconds + ")", x -> x.rest(seconds));
        }
    }

    private static void shot() {
        refused("6: a new object", Due.NOT_POSSIBLE, RefusalsTest::nothing, DriftGrinders::shot);
        refused("6: beans in the hopper", Due.NOT_POSSIBLE, RefusalsTest::fullHopper, DriftGrinders::shot);
        refused("6: beans in the chute", Due.NOT_POSSIBLE, x -> {
            x.fill(0, 100);
            x.grind(0, 40);
        }, DriftGrinders::shot);
        refused("6: a second shot", Due.NOT_POSSIBLE, x -> {
            busy(x);
            x.shot();
        }, DriftGrinders::shot);
    }

    private static void correct() {
        for (int burr : new int[] {-1, 2, LEAST, MOST}) {
            invalid("8: correct(" + burr + ")", x -> x.correct(burr));
        }
        for (int burr = 0; burr < 2; burr++) {
            int number = burr;
            refused("8: no shot", Due.NOT_POSSIBLE, RefusalsTest::nothing, x -> x.correct(number));
            refused("8: no shot yet", Due.NOT_POSSIBLE, RefusalsTest::fullBasket, x -> x.correct(number));
            refused("8: a shot undone", Due.NOT_POSSIBLE, x -> {
                fullBasket(x);
                x.shot();
                x.undo();
            }, x -> x.correct(number));
        }
    }

    private static void set() {
        int[][] ranges = {{100, 600}, {0, 200}, {0, 100}, {30, 300}, {30, 300}, {0, 1}};
        for (int i = 0; i < ranges.length; i++) {
            int what = i;
            for (int value : new int[] {ranges[i][0] - 1, ranges[i][1] + 1, LEAST, MOST}) {
                invalid("9: set(" + what + ", " + value + ")", x -> x.set(what, value));
            }
        }
        for (int what : new int[] {-1, 6, 20, LEAST, MOST}) {
            for (int value : new int[] {0, 1, 50, 100, -1, 601}) {
                invalid("9: set(" + what + ", " + value + ")", x -> x.set(what, value));
            }
        }
    }

    private static void burrOfAndLotOf() {
        for (int what : new int[] {-1, 5, LEAST, MOST}) {
            invalid("10: burrOf(0, " + what + ")", x -> x.burrOf(0, what));
            invalid("10: burrOf(1, " + what + ")", x -> x.burrOf(1, what));
        }
        for (int burr : new int[] {-1, 2, LEAST, MOST}) {
            invalid("10: burrOf(" + burr + ", 0)", x -> x.burrOf(burr, 0));
            invalid("10: burrOf(" + burr + ", 5)", x -> x.burrOf(burr, 5));
        }
        for (int what : new int[] {-1, 2, LEAST, MOST}) {
            invalid("11: lotOf(0, " + what + ")", x -> x.lotOf(0, what));
            invalid("11: lotOf(6, " + what + ")", x -> x.lotOf(6, what));
        }
        invalid("11: lotOf(-1, 0)", x -> x.lotOf(-1, 0));
        invalid("11: lotOf(least, 1)", x -> x.lotOf(LEAST, 1));
        invalid("11: lotOf(-1, 2)", x -> x.lotOf(-1, 2));
        refused("11: an empty hopper", Due.NOT_FOUND, RefusalsTest::emptyHopper, x -> x.lotOf(0, 0));
        refused("11: a seventh lot", Due.NOT_FOUND, RefusalsTest::sixLots, x -> x.lotOf(6, 1));
        refused("11: a third lot", Due.NOT_FOUND, RefusalsTest::fullHopper, x -> x.lotOf(2, 1));
        refused("11: lotOf(most, 0)", Due.NOT_FOUND, RefusalsTest::sixLots, x -> x.lotOf(MOST, 0));
    }

    private static void portionOf() {
        for (int where : new int[] {-1, 2, LEAST, MOST}) {
            invalid("12: portionOf(" + where + ", 0, 0)", x -> x.portionOf(where, 0, 0));
            invalid("12: portionOf(" + where + ", 999, 0)", x -> x.portionOf(where, 999, 0));
        }
        for (int where = 0; where < 2; where++) {
            int place = where;
            for (int what : new int[] {-1, 5, LEAST, MOST}) {
                invalid("12: portionOf(" + where + ", 0, " + what + ")", x -> x.portionOf(place, 0, what));
                invalid("12: portionOf(" + where + ", 999, " + what + ")", x -> x.portionOf(place, 999, what));
            }
            invalid("12: portionOf(" + where + ", -1, 0)", x -> x.portionOf(place, -1, 0));
            invalid("12: portionOf(" + where + ", least, 4)", x -> x.portionOf(place, LEAST, 4));
            invalid("12: portionOf(" + where + ", -1, 5)", x -> x.portionOf(place, -1, 5));
            refused("12: nothing there", Due.NOT_FOUND, RefusalsTest::sixLots, x -> x.portionOf(place, 0, 0));
            refused("12: portionOf(" + where + ", most, 0)", Due.NOT_FOUND, RefusalsTest::busy,
                    x -> x.portionOf(place, MOST, 0));
        }
        refused("12: a third one", Due.NOT_FOUND, RefusalsTest::emptyHopper, x -> x.portionOf(0, 2, 0));
        refused("12: a second one", Due.NOT_FOUND, RefusalsTest::emptyHopper, x -> x.portionOf(1, 1, 4));
    }

    private static void shotOfAndBest() {
        for (int what : new int[] {-1, 8, LEAST, MOST}) {
            invalid("13: shotOf(0, " + what + ")", x -> x.shotOf(0, what));
            invalid("13: shotOf(12, " + what + ")", x -> x.shotOf(12, what));
        }
        for (int index : new int[] {-1, -12, LEAST}) {
            invalid("13: shotOf(" + index + ", 0)", x -> x.shotOf(index, 0));
            invalid("13: shotOf(" + index + ", 8)", x -> x.shotOf(index, 8));
            invalid("14: best(" + index + ")", x -> x.best(index));
        }
        for (int index : new int[] {1, 12, MOST}) {
            refused("13: one shot alone", Due.NOT_FOUND, RefusalsTest::busy, x -> x.shotOf(index, 0));
            refused("14: one shot alone", Due.NOT_FOUND, RefusalsTest::busy, x -> x.best(index));
        }
        refused("13: no shot", Due.NOT_FOUND, RefusalsTest::fullBasket, x -> x.shotOf(0, 7));
        refused("14: no shot", Due.NOT_FOUND, RefusalsTest::fullBasket, x -> x.best(0));
    }

    private static void wouldTake() {
        for (int burr : new int[] {-1, 2, LEAST, MOST}) {
            invalid("15: wouldTake(" + burr + ", 1)", x -> x.wouldTake(burr, 1));
            invalid("15: wouldTake(" + burr + ", 401)", x -> x.wouldTake(burr, 401));
        }
        for (int amount : new int[] {-1, 0, 401, LEAST, MOST}) {
            invalid("15: wouldTake(0, " + amount + ")", x -> x.wouldTake(0, amount));
            invalid("15: wouldTake(1, " + amount + ")", x -> x.wouldTake(1, amount));
        }
        refused("15: of nothing", Due.NOT_POSSIBLE, RefusalsTest::nothing, x -> x.wouldTake(0, 1));
        refused("15: the hopper is empty", Due.NOT_POSSIBLE, RefusalsTest::emptyHopper, x -> x.wouldTake(0, 1));
        refused("15: the hopper has 30", Due.NOT_POSSIBLE, RefusalsTest::nearlyNew, x -> x.wouldTake(0, 31));
        refused("15: the basket would be empty", Due.NOT_POSSIBLE, RefusalsTest::fullHopper,
                x -> x.wouldTake(1, 40));
        refused("15: less, and too much", Due.NOT_POSSIBLE, RefusalsTest::fullBasket, x -> x.wouldTake(1, 61));
        refused("15: 401 in the basket", Due.LIMIT, RefusalsTest::fullBasket, x -> x.wouldTake(0, 1));
        refused("15: 460 in the basket", Due.LIMIT, RefusalsTest::fullBasket, x -> x.wouldTake(1, 60));
    }

    private static void dialForAndStale() {
        for (int number : new int[] {-1, 2, LEAST, MOST}) {
            invalid("16: dialFor(" + number + ", 0)", x -> x.dialFor(number, 0));
            invalid("16: dialFor(0, " + number + ")", x -> x.dialFor(0, number));
            invalid("16: dialFor(" + number + ", " + number + ")", x -> x.dialFor(number, number));
            invalid("17: stale(" + number + ")", x -> x.stale(number));
        }
        for (int burr = 0; burr < 2; burr++) {
            int number = burr;
            refused("17: a new object", Due.NOT_POSSIBLE, RefusalsTest::nothing, x -> x.stale(number));
            refused("17: the hopper is empty", Due.NOT_POSSIBLE, RefusalsTest::emptyHopper, x -> x.stale(number));
        }
    }

    private static void coolAfterAndCount() {
        for (int burr : new int[] {-1, 2, LEAST, MOST}) {
            invalid("18: coolAfter(" + burr + ", 0)", x -> x.coolAfter(burr, 0));
            invalid("18: coolAfter(" + burr + ", 301)", x -> x.coolAfter(burr, 301));
        }
        for (int warmth : new int[] {-1, 301, LEAST, MOST}) {
            invalid("18: coolAfter(0, " + warmth + ")", x -> x.coolAfter(0, warmth));
            invalid("18: coolAfter(1, " + warmth + ")", x -> x.coolAfter(1, warmth));
        }
        // less 20, as the settings are counted, LEAST + 19 would wrap around
        for (int what : new int[] {-1, 12, 13, 19, 26, LEAST, LEAST + 19, LEAST + 20, MOST}) {
            invalid("19: count(" + what + ")", x -> x.count(what));
        }
    }

    private static void undo() {
        refused("20: a new object", Due.NOT_POSSIBLE, RefusalsTest::nothing, DriftGrinders::undo);
        refused("20: all undone", Due.NOT_POSSIBLE, x -> {
            busy(x);
            x.undo();
            x.undo();
            x.undo();
            x.undo();
        }, DriftGrinders::undo);
    }

    private static void type() {
        for (int character : new int[] {-1, 0, 10, 31, 127, 128, 233, 256 + 's', 65536 + 's', LEAST, MOST}) {
            invalid("21: type(" + character + ")", x -> x.type(character));
        }
        for (int character : new int[] {32, ';', 'w', 126}) {
            refused("21: the text is full", Due.LIMIT, RefusalsTest::fullText, x -> x.type(character));
        }
    }

    private static void faultAndPlay() {
        for (int what : new int[] {-1, 3, LEAST, MOST}) {
            invalid("23: fault(" + what + ")", x -> x.fault(what));
            refused("23: no fault, fault(" + what + ")", Due.INVALID, x -> Due.write(x, "w1;"), x -> x.fault(what));
        }
        for (int i = 0; i < 3; i++) {
            int what = i;
            refused("23: an empty text", Due.NOT_FOUND, RefusalsTest::sixLots, x -> x.fault(what));
            refused("23: no fault", Due.NOT_FOUND, x -> Due.write(x, "f0,9;g0,9;w1;"), x -> x.fault(what));
        }
        refused("24: refused at its end", Due.NOT_POSSIBLE, RefusalsTest::busy, DriftGrinders::play);
        refused("24: broken off at its end", Due.NOT_POSSIBLE, RefusalsTest::nearlyNew, DriftGrinders::play);
        refused("24: refused in its midst", Due.NOT_POSSIBLE, RefusalsTest::fullText, DriftGrinders::play);
        refused("24: refused at a limit", Due.NOT_POSSIBLE, x -> {
            sixLots(x);
            Due.write(x, "w9;f1,3;f0,1;");
        }, DriftGrinders::play);
    }

    /** What only asks changes nothing if it answers, either. */
    private static void answersOfQueries() {
        asked("10: burrOf(1, 0)", 25, x -> x.burrOf(1, 0));
        asked("11: lotOf(0, 1)", 261, x -> x.lotOf(0, 1));
        asked("12: portionOf(0, 0, 0)", 1, x -> x.portionOf(0, 0, 0));
        asked("12: portionOf(1, 0, 0)", 40, x -> x.portionOf(1, 0, 0));
        asked("13: shotOf(0, 1)", 480, x -> x.shotOf(0, 1));
        asked("14: best(0)", 0, x -> x.best(0));
        asked("15: wouldTake(1, 261)", (40 * 480 + 30 * 235 + 30 * 176 + 9 * 365 + 221 * 367) / 330,
                x -> x.wouldTake(1, 261));
        asked("16: dialFor(1, 1)", 43, x -> x.dialFor(1, 1));
        asked("17: stale(0)", 40, x -> x.stale(0));
        asked("18: coolAfter(0, 300)", 0, x -> x.coolAfter(0, 300));
        asked("19: count(8)", 1, x -> x.count(8));
        asked("23: fault(0)", 10, x -> x.fault(0));
        asked("23: fault(2)", Due.INVALID, x -> x.fault(2));
    }

    private static void asked(String name, int want, Twins.Call call) {
        Twins.leavesAll(name, want, RefusalsTest::busy, call);
    }
}
