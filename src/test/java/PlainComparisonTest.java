import java.util.Random;

/** Long runs of calls, the same ones each time, with each answer compared with PlainGrinder's. */
public final class PlainComparisonTest {
    private static final int RUNS = 240;
    private static final int CALLS = 512;
    private static final int QUERIES_EACH = 6;

    private final Random random;
    private final DriftGrinders x = new DriftGrinders();
    private final PlainGrinder plain = new PlainGrinder();
    private final int run;

    private PlainComparisonTest(int run) {
        this.run = run;
        random = new Random(run);
    }

    public static void main(String[] args) {
        for (int run = 0; run < RUNS && !Due.anyWrong(); run++) {
            new PlainComparisonTest(run).go();
        }
        Due.end();
    }

    private void go() {
        for (int call = 0; call < CALLS && !Due.anyWrong(); call++) {
            if (random.nextInt(3) == 0) {
                askAtRandom(call);
            } else {
                changeAtRandom(call);
            }
            if (call % 16 == 15) {
                askEverything(call);
            }
            // queries change nothing, so that more of them than 512 calls do no harm to the run
            for (int i = 0; i < QUERIES_EACH; i++) {
                askAtRandom(call);
            }
        }
    }

    private int upTo(int most) {
        return random.nextInt(most + 1);
    }

    /** Mostly from least to most, and sometimes beyond. */
    private int around(int least, int most) {
        switch (upTo(24)) {
            case 0:
                return least;
            case 1:
                return most;
            case 2:
                return least - 1;
            case 3:
                return most + 1;
            case 4:
                return random.nextInt(40) == 0 ? random.nextInt() : least;
            default:
                return least + upTo(most - least);
        }
    }

    private int zeroOrOne() {
        return upTo(40) == 0 ? around(0, 1) : upTo(1);
    }

    /** Each run has its own way: small amounts, large ones, or both. */
    private int amount(int most) {
        int way = run % 4;
        if (way == 0 || way == 1 && random.nextBoolean()) {
            return around(1, 12);
        }
        return way == 2 ? around(1, most / 4) : around(1, most);
    }

    private void due(String call, int want, int got) {
        Due.due("run " + run + ": " + call, want, got);
    }

    private void changeAtRandom(int call) {
        int a = zeroOrOne();
        int b;
        switch (upTo(22)) {
            case 0:
            case 1:
            case 2:
            case 3:
                b = random.nextBoolean() ? around(1, 999) : amount(999);
                due(call + " fill(" + a + ", " + b + ")", plain.fill(a, b), x.fill(a, b));
                break;
            case 4:
            case 5:
            case 6:
            case 7:
            case 8:
            case 9:
                b = amount(400);
                due(call + " grind(" + a + ", " + b + ")", plain.grind(a, b), x.grind(a, b));
                break;
            case 10:
                b = around(1, 60);
                due(call + " dial(" + a + ", " + b + ")", plain.dial(a, b), x.dial(a, b));
                break;
            case 11:
                b = random.nextBoolean() ? around(1, 999) : around(1, 30);
                due(call + " rest(" + b + ")", plain.rest(b), x.rest(b));
                break;
            case 12:
            case 13:
                if (run % 8 != 0 || upTo(20) == 0) {
                    due(call + " shot()", plain.shot(), x.shot());
                }
                break;
            case 14:
                due(call + " purge()", plain.purge(), x.purge());
                break;
            case 15:
                due(call + " correct(" + a + ")", plain.correct(a), x.correct(a));
                break;
            case 16:
            case 17:
                changeSetting(call);
                break;
            case 18:
                due(call + " undo()", plain.undo(), x.undo());
                break;
            case 19:
            case 20:
                typeAtRandom(call);
                break;
            case 21:
                due(call + " play()", plain.play(), x.play());
                break;
            default:
                due(call + " clearText()", plain.clearText(), x.clearText());
        }
    }

    private void changeSetting(int call) {
        int[][] ranges = {{100, 600}, {0, 200}, {0, 100}, {30, 300}, {30, 300}, {0, 1}};
        int what = around(0, 5);
        int[] range = what < 0 || what > 5 ? new int[] {0, 600} : ranges[what];
        int value = around(range[0], range[1]);
        due(call + " set(" + what + ", " + value + ")", plain.set(what, value), x.set(what, value));
    }

    private void typeAtRandom(int call) {
        StringBuilder text = new StringBuilder();
        if (upTo(3) > 0) {
            due(call + " clearText()", plain.clearText(), x.clearText());
        }
        int orders = upTo(9);
        for (int i = 0; i < orders; i++) {
            text.append(orderAtRandom());
        }
        if (text.length() > 0 && upTo(4) == 0) {
            int where = upTo(text.length() - 1);
            text.setCharAt(where, (char) (32 + upTo(94)));
        }
        if (text.length() > 0 && upTo(4) == 0) {
            text.setLength(upTo(text.length()));
        }
        for (int i = 0; i < text.length(); i++) {
            char c = text.charAt(i);
            due(call + " type(" + (int) c + ") of " + text, plain.type(c), x.type(c));
        }
        int any = around(32, 126);
        if (any < 32 || any > 126) {
            due(call + " type(" + any + ")", plain.type(any), x.type(any));
        }
        due(call + " fault(0) of " + text, plain.fault(0), x.fault(0));
        due(call + " fault(1) of " + text, plain.fault(1), x.fault(1));
        due(call + " fault(2) of " + text, plain.fault(2), x.fault(2));
        if (random.nextBoolean()) {
            due(call + " play() of " + text, plain.play(), x.play());
        }
    }

    private String number(int number) {
        int n = Math.max(0, number);
        return upTo(5) == 0 && n < 100 ? "0" + n : "" + n;
    }

    private String orderAtRandom() {
        int a = zeroOrOne();
        switch (upTo(9)) {
            case 0:
            case 1:
                return "f" + number(a) + "," + number(amount(999)) + ";";
            case 2:
            case 3:
            case 4:
                return "g" + number(a) + "," + number(amount(400)) + ";";
            case 5:
                return "b" + number(a) + "," + number(around(1, 60)) + ";";
            case 6:
                return "w" + number(around(1, 99)) + ";";
            case 7:
            case 8:
                return "s;";
            default:
                return "p;";
        }
    }

    private void askAtRandom(int call) {
        int a = zeroOrOne();
        int b;
        int c;
        switch (upTo(10)) {
            case 0:
                b = around(0, 4);
                due(call + " burrOf(" + a + ", " + b + ")", plain.burrOf(a, b), x.burrOf(a, b));
                break;
            case 1:
                b = around(0, 6);
                due(call + " lotOf(" + b + ", " + a + ")", plain.lotOf(b, a), x.lotOf(b, a));
                break;
            case 2:
                b = around(0, 20);
                c = around(0, 4);
                due(call + " portionOf(" + a + ", " + b + ", " + c + ")",
                        plain.portionOf(a, b, c), x.portionOf(a, b, c));
                break;
            case 3:
                b = around(0, 12);
                c = around(0, 7);
                due(call + " shotOf(" + b + ", " + c + ")", plain.shotOf(b, c), x.shotOf(b, c));
                break;
            case 4:
                b = around(0, 12);
                due(call + " best(" + b + ")", plain.best(b), x.best(b));
                break;
            case 5:
                b = amount(400);
                due(call + " wouldTake(" + a + ", " + b + ")", plain.wouldTake(a, b), x.wouldTake(a, b));
                break;
            case 6:
                b = zeroOrOne();
                due(call + " dialFor(" + a + ", " + b + ")", plain.dialFor(a, b), x.dialFor(a, b));
                break;
            case 7:
                due(call + " stale(" + a + ")", plain.stale(a), x.stale(a));
                break;
            case 8:
                b = random.nextBoolean() ? around(0, 300) : around(0, 30);
                due(call + " coolAfter(" + a + ", " + b + ")", plain.coolAfter(a, b), x.coolAfter(a, b));
                break;
            case 9:
                b = around(0, 25);
                due(call + " count(" + b + ")", plain.count(b), x.count(b));
                break;
            default:
                b = around(0, 2);
                due(call + " fault(" + b + ")", plain.fault(b), x.fault(b));
        }
    }

    private void askEverything(int call) {
        for (int what = -1; what <= 26; what++) {
            due(call + " count(" + what + ")", plain.count(what), x.count(what));
        }
        for (int what = 0; what < 5; what++) {
            due(call + " burrOf(0, " + what + ")", plain.burrOf(0, what), x.burrOf(0, what));
            due(call + " burrOf(1, " + what + ")", plain.burrOf(1, what), x.burrOf(1, what));
        }
        for (int lot = 0; lot <= 6; lot++) {
            due(call + " lotOf(" + lot + ", 0)", plain.lotOf(lot, 0), x.lotOf(lot, 0));
            due(call + " lotOf(" + lot + ", 1)", plain.lotOf(lot, 1), x.lotOf(lot, 1));
        }
        for (int where = 0; where < 2; where++) {
            int portion = 0;
            do {
                for (int what = 0; what < 5; what++) {
                    due(call + " portionOf(" + where + ", " + portion + ", " + what + ")",
                            plain.portionOf(where, portion, what), x.portionOf(where, portion, what));
                }
            } while (plain.portionOf(where, portion++, 0) >= 0);
        }
        for (int shot = 0; shot <= 12; shot++) {
            for (int what = 0; what < 8; what++) {
                due(call + " shotOf(" + shot + ", " + what + ")", plain.shotOf(shot, what), x.shotOf(shot, what));
            }
            due(call + " best(" + shot + ")", plain.best(shot), x.best(shot));
        }
    }
}
