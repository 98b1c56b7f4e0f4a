/** Promises 21 to 24: the text, its fault, and playing it. */
public final class TextsTest {
    private TextsTest() {
    }

    public static void main(String[] args) {
        promise21Type();
        promise22ClearText();
        promise23FormFaults();
        promise23Refusals();
        promise23WhatIsDoneAhead();
        promise23WrongInputs();
        promise24Play();
        promise24PlayIsOneChange();
        promise24PlayWithFault();
        promise24LongText();
        Due.end();
    }

    private static void promise21Type() {
        DriftGrinders x = new DriftGrinders();
        Due.due("21: type(31)", Due.INVALID, x.type(31));
        Due.due("21: type(127)", Due.INVALID, x.type(127));
        Due.due("21: type(-1)", Due.INVALID, x.type(-1));
        Due.due("21: type(65536 + 's')", Due.INVALID, x.type(65536 + 's'));
        Due.due("21: type(least)", Due.INVALID, x.type(Integer.MIN_VALUE));
        Due.due("21: type(32)", 1, x.type(32));
        Due.due("21: type(126)", 2, x.type(126));
        for (int length = 3; length <= 60; length++) {
            Due.due("21: character " + length, length, x.type('s'));
        }
        Due.due("21: a character too many", Due.LIMIT, x.type('s'));
        Due.due("21: an invalid one goes first", Due.INVALID, x.type(31));
        Due.due("21: the length", 60, x.count(11));
        Due.due("21: it is no change", 0, x.count(10));
    }

    private static void promise22ClearText() {
        DriftGrinders x = new DriftGrinders();
        Due.due("22: of an empty text", 0, x.clearText());
        Due.write(x, "w10;p;x");
        Due.due("22: clearText()", 7, x.clearText());
        Due.due("22: clearText() again", 0, x.clearText());
        Due.due("22: the length", 0, x.count(11));
        Due.due("22: it is no change", 0, x.count(10));
        Due.due("22: nothing is at fault any more", Due.NOT_FOUND, x.fault(0));
        Due.write(x, "p;");
        Due.due("22: what is written then", 1, x.play());
    }

    private static void dueFault(String text, int position, int reason, int cause) {
        DriftGrinders x = new DriftGrinders();
        Due.write(x, text);
        Due.due("23: position of \"" + text + "\"", position, x.fault(0));
        Due.due("23: reason of \"" + text + "\"", reason, x.fault(1));
        Due.due("23: cause of \"" + text + "\"", cause, x.fault(2));
        Due.due("24: play of \"" + text + "\"", reason == Due.NOT_FOUND ? 1 : Due.NOT_POSSIBLE,
                Math.min(1, x.play()));
    }

    private static void dueNoFault(String text) {
        dueFault(text, Due.NOT_FOUND, Due.NOT_FOUND, Due.NOT_FOUND);
    }

    private static void promise23FormFaults() {
        String[] brokenOff = {";", "x", " ", "F0,1;", "1", "f;", "f,", "f,1;", "fx", "f0;", "f0 ,1;",
            "f0,;", "f0,1", "f0,1,", "f0,1x;", "f0,1234;", "f0000,1;", "f0,-1;", "b1.5;", "g0;",
            "w;", "w", "w1", "w12x", "w1234;", "w1,1;", "s", "s0;", "ss;", "p", "p;x", "f", "f0", "f0,",
            "f0,123", "g1,400", "w999", "s ;", "\"", "~", "a", "e0,1;", "h0,1;", "c", "t;", "q;", "o;"};
        int[] causes = {0, 0, 0, 0, 0, 1, 1, 1, 1, 2, 2,
            3, 4, 4, 4, 6, 4, 3, 2, 2,
            1, 1, 2, 3, 4, 2, 1, 1, 1, 1, 0, 1, 2, 3,
            6, 6, 4, 1, 0, 0, 0, 0, 0, 0, 0, 0, 0};
        Due.due("23: as many texts as causes", brokenOff.length, causes.length);
        for (int i = 0; i < brokenOff.length; i++) {
            int position = brokenOff[i].equals("p;x") ? 2 : 0;
            dueFault(brokenOff[i], position, 1, causes[i]);
        }
        dueFault("w1;p;f1,5;w", 10, 1, 1);
        dueFault("w1;;", 3, 1, 0);
        dueFault("w1; w1;", 3, 1, 0);
        dueNoFault("f0,1;");
        dueNoFault("f1,999;");
        dueNoFault("f000,001;");
        dueNoFault("f01,099;");
        dueNoFault("b001,060;");
        dueNoFault("w001;");
        dueNoFault("p;p;p;");
        dueNoFault("f0,41;g1,41;s;");
    }

    private static void promise23Refusals() {
        dueFault("f2,1;", 0, 2, Due.INVALID);
        dueFault("f100,1;", 0, 2, Due.INVALID);
        dueFault("f0,0;", 0, 2, Due.INVALID);
        dueFault("f0,000;", 0, 2, Due.INVALID);
        dueFault("g2,1;", 0, 2, Due.INVALID);
        dueFault("g0,401;", 0, 2, Due.INVALID);
        dueFault("g0,1;", 0, 2, Due.NOT_POSSIBLE);
        dueFault("b0,61;", 0, 2, Due.INVALID);
        dueFault("b0,0;", 0, 2, Due.INVALID);
        dueFault("b2,1;", 0, 2, Due.INVALID);
        dueFault("w0;", 0, 2, Due.INVALID);
        dueFault("s;", 0, 2, Due.NOT_POSSIBLE);
        dueFault("f0,1;f1,1;f0,1;f1,1;f0,1;f1,1;f0,1;", 30, 2, Due.LIMIT);
        dueFault("f0,999;f0,999;f0,999;f0,999;f0,5;", 28, 2, Due.LIMIT);
        dueFault("f0,441;g0,400;g0,41;", 14, 2, Due.LIMIT);
        dueFault("f0,440;g0,400;g0,41;", 14, 2, Due.NOT_POSSIBLE);
    }

    private static void promise23WhatIsDoneAhead() {
        dueFault("f0,50;g0,50;s;s;", 14, 2, Due.NOT_POSSIBLE);
        dueFault("f0,50;g0,51;x", 6, 2, Due.NOT_POSSIBLE);
        dueFault("p;w0;x", 2, 2, Due.INVALID);
        dueFault("p;w;w0;", 2, 1, 1);
        DriftGrinders x = new DriftGrinders();
        Due.write(x, "g0,50;s;");
        Due.due("23: without beans", Due.NOT_POSSIBLE, x.fault(2));
        x.fill(0, 60);
        Due.due("23: with beans", Due.NOT_FOUND, x.fault(2));
        Due.due("24: play()", 2, x.play());
        Due.due("23: the state of now counts", 0, x.fault(0));
        Due.due("23: its reason", 2, x.fault(1));
        x.undo();
        Due.due("23: with beans again", Due.NOT_FOUND, x.fault(1));
        Due.write(x, "s;");
        Due.due("23: a second shot", 8, x.fault(0));
        Due.due("23: asking does nothing", 60, x.count(5));
        Due.due("23: nor is it a change", 1, x.count(10));
    }

    private static void promise23WrongInputs() {
        DriftGrinders x = new DriftGrinders();
        Due.due("23: of an empty text", Due.NOT_FOUND, x.fault(0));
        Due.due("23: of an empty text", Due.NOT_FOUND, x.fault(1));
        Due.due("23: of an empty text", Due.NOT_FOUND, x.fault(2));
        for (int what : new int[] {-1, 3, Integer.MAX_VALUE, Integer.MIN_VALUE}) {
            Due.due("23: fault(" + what + ")", Due.INVALID, x.fault(what));
        }
        Due.write(x, "x");
        Due.due("23: fault(3) of a fault", Due.INVALID, x.fault(3));
    }

    private static void promise24Play() {
        DriftGrinders x = new DriftGrinders();
        DriftGrinders y = new DriftGrinders();
        Due.write(x, "f0,300;f1,99;b1,25;g0,150;g1,60;s;w33;p;g1,5;");
        Due.due("24: play()", 9, x.play());
        y.fill(0, 300);
        y.fill(1, 99);
        y.dial(1, 25);
        y.grind(0, 150);
        y.grind(1, 60);
        y.shot();
        y.rest(33);
        y.purge();
        y.grind(1, 5);
        Due.due("24: as by the calls", 1, Facts.of(x).equals(Facts.of(y)) ? 1 : 0);
        Due.due("24: the text stays", 45, x.count(11));
        Due.rewrite(x, "w1;");
        Due.due("24: play()", 1, x.play());
        Due.due("24: play() again", 1, x.play());
        Due.due("24: a second each", y.count(0) + 2, x.count(0));
    }

    private static void promise24PlayIsOneChange() {
        DriftGrinders x = new DriftGrinders();
        Due.due("24: no orders", 0, x.play());
        Due.due("24: one change all the same", 1, x.count(10));
        x.fill(0, 100);
        String before = Facts.of(x);
        Due.write(x, "f1,5;f0,6;f1,7;g0,103;w9;p;");
        Due.due("24: six orders", 6, x.play());
        Due.due("24: one change", 3, x.count(10));
        Due.due("20: undo of it", 2, x.undo());
        Due.due("24: all as before", 1, before.equals(Facts.of(x)) ? 1 : 0);
        Due.due("24: but the text", 27, x.count(11));
        Due.due("24: play() again", 6, x.play());
        Due.rewrite(x, "w1;");
        for (int i = 0; i < 5; i++) {
            x.play();
        }
        Due.due("24: four states", 4, x.count(10));
    }

    private static void promise24PlayWithFault() {
        DriftGrinders x = new DriftGrinders();
        x.fill(0, 100);
        x.rest(3);
        String before = Facts.of(x);
        String[] texts = {"w5;x", "w5;w5", "w5;w0;", "w5;g0,100;g0,1;", "s;", "f0,5;w1000;"};
        for (String text : texts) {
            Due.rewrite(x, text);
            Due.due("24: play of \"" + text + "\"", Due.NOT_POSSIBLE, x.play());
            Due.due("24: nothing is done", 1, before.equals(Facts.of(x)) ? 1 : 0);
            Due.due("24: it is no change", 2, x.count(10));
            Due.due("24: the text stays", text.length(), x.count(11));
        }
    }

    private static void promise24LongText() {
        DriftGrinders x = new DriftGrinders();
        for (int i = 0; i < 30; i++) {
            Due.write(x, "p;");
        }
        Due.due("24: thirty orders", 30, x.play());
        Due.rewrite(x, "w999;w999;w999;w999;w999;w999;w999;w999;w999;w999;w999;w999;");
        Due.due("24: twelve orders", 12, x.play());
        Due.due("24: their seconds", 12 * 999, x.count(0));
        x.type('x');
        Due.due("24: there is no room for a fault", 12, x.play());
        Due.rewrite(x, "w999;w999;w999;w999;w999;w999;w999;w999;w999;w999;w999;w9999");
        Due.due("23: the last order breaks off at its end", 4, x.fault(2));
        Due.due("23: where it is", 55, x.fault(0));
    }
}
