/** The boundary cases of the section Texts and of promises 21 to 24, a test for each sentence. */
public final class EdgesOfTextsTest {
    private static final String[] ORDERS = {"f0,5;", "f1,25;", "f001,025;", "g0,1;", "g01,03;", "b0,60;", "b000,001;",
        "w1;", "w99;", "w999;", "s;", "p;"};

    private EdgesOfTextsTest() {
    }

    public static void main(String[] args) {
        theText();
        theForm();
        theFault();
        theRefusals();
        playing();
        Due.end();
    }

    private static void theText() {
        emptyAtFirst();
        sixtyCharactersAtMost();
        charactersFrom32To126();
        clearedText();
    }

    private static void theForm() {
        endedTooEarly();
        anotherCharacterAnywhere();
        numbersOfOneToThreeDigits();
        zerosAhead();
        signsBesideDigits();
        lettersAlone();
        semicolonIncluded();
    }

    private static void theFault() {
        firstOrderOfSeveral();
        positionOfTheLastCharacter();
        refusedAheadOfTheForm();
        formAheadOfTheRefused();
        whenThoseAheadAreDone();
        byTheStateOfNow();
        settingsOfNow();
    }

    private static void theRefusals() {
        arguments();
        notPossible();
        limits();
        oneErrorRatherThanAnother();
    }

    private static void playing() {
        noOrders();
        asManyAsThereAre();
        textStays();
        refusedPlayChangesNothing();
        shotsCorrectWithinAText();
        playAgainAndAgain();
    }

    private static DriftGrinders with(String text) {
        return Twins.made(x -> Due.write(x, text));
    }

    private static void dueFault(String text, DriftGrinders x, int position, int reason, int cause) {
        Due.due("position, \"" + text + "\"", position, x.fault(0));
        Due.due("reason, \"" + text + "\"", reason, x.fault(1));
        Due.due("cause, \"" + text + "\"", cause, x.fault(2));
        Due.due("play, \"" + text + "\"", Due.NOT_POSSIBLE, x.play());
    }

    private static void dueFault(String text, int position, int reason, int cause) {
        dueFault(text, with(text), position, reason, cause);
    }

    private static void dueOrders(String text, int orders) {
        DriftGrinders x = with(text);
        for (int what = 0; what < 3; what++) {
            Due.due("fault(" + what + "), \"" + text + "\"", Due.NOT_FOUND, x.fault(what));
        }
        Due.due("play, \"" + text + "\"", orders, x.play());
    }

    // ---- "There is a text of at most 60 characters, initially empty"

    private static void emptyAtFirst() {
        DriftGrinders x = new DriftGrinders();
        Due.due("its length", 0, x.count(11));
        Due.due("its fault", Due.NOT_FOUND, x.fault(0));
        Due.due("nothing to empty", 0, x.clearText());
    }

    private static void sixtyCharactersAtMost() {
        DriftGrinders x = new DriftGrinders();
        for (int length = 1; length <= 60; length++) {
            Due.due("its length", length, x.type('p'));
        }
        Due.due("the 61st character", Due.LIMIT, x.type('p'));
        Due.due("its length", 60, x.clearText());
        Due.due("room again", 1, x.type('p'));
    }

    private static void charactersFrom32To126() {
        for (int character = 32; character <= 126; character++) {
            Due.due("character " + character, 1, new DriftGrinders().type(character));
        }
        Due.due("character 31", Due.INVALID, new DriftGrinders().type(31));
        Due.due("character 127", Due.INVALID, new DriftGrinders().type(127));
        DriftGrinders x = with("s");
        Due.due("character 127 behind another", Due.INVALID, x.type(127));
        Due.due("it is not there", 1, x.count(11));
    }

    private static void clearedText() {
        DriftGrinders x = with("w9;w8;x");
        Due.due("the length it had", 7, x.clearText());
        Due.due("the length it has", 0, x.count(11));
        Due.due("no fault is left", Due.NOT_FOUND, x.fault(0));
        Due.write(x, "w7;");
        Due.due("nothing of the old text", 1, x.play());
        Due.due("7 seconds", 7, x.count(0));
    }

    // ---- "its reason is 1 if it is not of this form, its ";" included"; "its cause is with the reason 1 at
    // which character of the order, from 0, it breaks off (of one that the text ends too early it is its length)"

    private static void endedTooEarly() {
        for (String order : ORDERS) {
            for (int length = 1; length < order.length(); length++) {
                String beginning = order.substring(0, length);
                dueFault(beginning, 0, 1, length);
                dueFault("w1;" + beginning, 3, 1, length);
            }
        }
    }

    /** Each character in each place of each order, compared with the document in its plainest form. */
    private static void anotherCharacterAnywhere() {
        for (String order : ORDERS) {
            for (int place = 0; place < order.length(); place++) {
                for (char c = 32; c <= 126; c++) {
                    dueAsPlain("p;" + order.substring(0, place) + c + order.substring(place + 1));
                    dueAsPlain("p;" + order.substring(0, place) + c + order.substring(place));
                }
                dueAsPlain("p;" + order.substring(0, place) + order.substring(place + 1));
            }
        }
    }

    private static void dueAsPlain(String text) {
        DriftGrinders x = with("f0,99;" + text);
        PlainGrinder plain = new PlainGrinder();
        for (char c : ("f0,99;" + text).toCharArray()) {
            plain.type(c);
        }
        for (int what = 0; what < 3; what++) {
            Due.due("fault(" + what + "), \"" + text + "\"", plain.fault(what), x.fault(what));
        }
        Due.due("play, \"" + text + "\"", plain.play(), x.play());
        Due.due("seconds, \"" + text + "\"", plain.count(0), x.count(0));
    }

    // ---- "numbers of 1 to 3 digits, 0 ahead allowed"

    private static void numbersOfOneToThreeDigits() {
        dueFault("w;", 0, 1, 1);
        dueOrders("w9;", 1);
        dueOrders("w99;", 1);
        dueOrders("w999;", 1);
        dueFault("w1000;", 0, 1, 4);
        dueFault("f,1;", 0, 1, 1);
        dueFault("f0,;", 0, 1, 3);
        dueOrders("f0,999;", 1);
        dueFault("f0,1000;", 0, 1, 6);
        dueFault("f0000,1;", 0, 1, 4);
        dueFault("b0,;", 0, 1, 3);
        dueFault("b0,0060;", 0, 1, 6);
        dueFault("g,1;", 0, 1, 1);
        dueFault("g0,0001;", 0, 1, 6);
        dueFault("w1234", 0, 1, 4);
    }

    private static void zerosAhead() {
        dueOrders("w001;", 1);
        dueOrders("w010;", 1);
        dueOrders("f000,009;g001,09;b00,060;", 3);
        DriftGrinders x = with("f001,010;w007;b01,08;");
        x.play();
        Due.due("kind 1", 1, x.lotOf(0, 0));
        Due.due("10, and not 8", 10, x.lotOf(0, 1));
        Due.due("7 seconds", 7, x.count(0));
        Due.due("dial 8", 8, x.burrOf(1, 0));
        dueFault("w0;", 0, 2, Due.INVALID);
        dueFault("w00;", 0, 2, Due.INVALID);
        dueFault("w000;", 0, 2, Due.INVALID);
    }

    private static void signsBesideDigits() {
        // '/' stands just ahead of '0', ':' just behind '9'
        dueFault("w/;", 0, 1, 1);
        dueFault("w:;", 0, 1, 1);
        dueFault("w1/;", 0, 1, 2);
        dueFault("w1:;", 0, 1, 2);
        dueFault("w-1;", 0, 1, 1);
        dueFault("w+1;", 0, 1, 1);
        dueFault("w 1;", 0, 1, 1);
        dueFault("w1 ;", 0, 1, 2);
        dueOrders("w10;w89;", 2);
    }

    private static void lettersAlone() {
        for (char c = 32; c <= 126; c++) {
            if ("fgbwsp".indexOf(c) < 0) {
                dueFault(String.valueOf(c), 0, 1, 0);
            } else {
                dueFault(String.valueOf(c), 0, 1, 1);
            }
        }
    }

    private static void semicolonIncluded() {
        dueFault("p", 0, 1, 1);
        dueFault("p,", 0, 1, 1);
        dueFault("p:", 0, 1, 1);
        dueFault("p<", 0, 1, 1);
        dueFault(";", 0, 1, 0);
        dueFault("p;;", 2, 1, 0);
        dueFault("w1,", 0, 1, 2);
        dueFault("f0;1;", 0, 1, 2);
        dueFault("f0,1,", 0, 1, 4);
    }

    // ---- "The fault of the text is the position, from 0, of the first character of the first order that is not
    // possible"

    private static void firstOrderOfSeveral() {
        dueFault("x;y;", 0, 1, 0);
        dueFault("w1;x;y;", 3, 1, 0);
        dueFault("w0;w0;", 0, 2, Due.INVALID);
        dueFault("w1;w0;s;", 3, 2, Due.INVALID);
    }

    private static void positionOfTheLastCharacter() {
        StringBuilder text = new StringBuilder("w1;");
        while (text.length() < 59) {
            text.append("p;");
        }
        dueFault(text + "s", 59, 1, 1);
        dueFault(text + ";", 59, 1, 0);
        dueOrders(text.toString(), 29);
        dueFault("w1;p;p;p;p;p;p;p;p;p;p;p;p;p;p;p;p;p;p;p;p;p;p;p;p;p;p;p;w999", 57, 1, 3);
    }

    private static void refusedAheadOfTheForm() {
        dueFault("s;x", 0, 2, Due.NOT_POSSIBLE);
        dueFault("g0,1;g", 0, 2, Due.NOT_POSSIBLE);
    }

    private static void formAheadOfTheRefused() {
        dueFault("x;s;", 0, 1, 0);
        dueFault("s", 0, 1, 1);
        dueFault("g0,1", 0, 1, 4);
        dueFault("g9,999", 0, 1, 6);
    }

    // ---- "and otherwise 2, when those ahead of it are done"

    private static void whenThoseAheadAreDone() {
        dueOrders("f0,1;g0,1;", 2);
        dueFault("g0,1;f0,1;", 0, 2, Due.NOT_POSSIBLE);
        dueOrders("f0,41;g0,41;s;", 3);
        dueFault("f0,40;g0,40;s;", 12, 2, Due.NOT_POSSIBLE);
        dueFault("f0,41;g0,41;s;s;", 14, 2, Due.NOT_POSSIBLE);
        dueFault("f0,1;g0,1;g0,1;", 10, 2, Due.NOT_POSSIBLE);
        dueOrders("f0,40;g0,40;p;f0,40;g0,40;", 5);
    }

    private static void byTheStateOfNow() {
        DriftGrinders x = with("g0,41;s;");
        dueFault("without beans", x, 0, 2, Due.NOT_POSSIBLE);
        x.fill(0, 40);
        dueFault("with too few", x, 0, 2, Due.NOT_POSSIBLE);
        x.fill(0, 1);
        Due.due("with enough", Due.NOT_FOUND, x.fault(0));
        Due.due("asked again", Due.NOT_FOUND, x.fault(0));
        Due.due("play", 2, x.play());
        dueFault("all is ground", x, 0, 2, Due.NOT_POSSIBLE);
        x.undo();
        Due.due("undone", Due.NOT_FOUND, x.fault(0));
    }

    private static void settingsOfNow() {
        DriftGrinders x = with("f0,500;g0,400;g0,40;");
        Due.due("the chute holds 40", Due.NOT_FOUND, x.fault(2));
        x.set(2, 39);
        dueFault("it holds 39", x, 14, 2, Due.LIMIT);
    }

    // ---- "with the reason 2 the error code that the call returns for it"

    private static void arguments() {
        String[] refused = {"f2,1;", "f999,1;", "f0,0;", "f1,000;", "g2,1;", "g0,0;", "g1,401;", "g0,999;", "b2,1;",
            "b0,0;", "b1,61;", "b0,999;", "w0;"};
        for (String order : refused) {
            dueFault(order, 0, 2, Due.INVALID);
            dueFault("f0,999;" + order, 7, 2, Due.INVALID);
        }
        dueOrders("f0,1;f1,999;g0,1;g1,400;b0,1;b1,60;w1;w999;", 8);
    }

    private static void notPossible() {
        dueFault("g0,400;", 0, 2, Due.NOT_POSSIBLE);
        dueFault("f0,399;g0,400;", 7, 2, Due.NOT_POSSIBLE);
        dueFault("s;", 0, 2, Due.NOT_POSSIBLE);
    }

    private static void limits() {
        dueOrders("f0,1;f1,1;f0,1;f1,1;f0,1;f1,1;f1,9;", 7);
        dueFault("f0,1;f1,1;f0,1;f1,1;f0,1;f1,1;f0,9;", 30, 2, Due.LIMIT);
        dueOrders("f0,999;f0,999;f0,999;f0,999;f0,4;", 5);
        dueFault("f0,999;f0,999;f0,999;f0,999;f0,5;", 28, 2, Due.LIMIT);
        dueOrders("f0,500;g0,400;g0,40;", 3);
        dueFault("f0,500;g0,400;g0,41;", 14, 2, Due.LIMIT);
    }

    private static void oneErrorRatherThanAnother() {
        dueFault("f0,440;g0,400;g0,41;", 14, 2, Due.NOT_POSSIBLE);
        dueFault("f0,440;g0,400;g0,401;", 14, 2, Due.INVALID);
        dueFault("f0,999;f0,999;f0,999;f0,999;f2,5;", 28, 2, Due.INVALID);
    }

    // ---- "Does all orders of the text, which stays. They are one change, also if there are none."; "Returns how
    // many there are in it; NOT_POSSIBLE if it has a fault."

    private static void noOrders() {
        DriftGrinders x = new DriftGrinders();
        Due.due("play", 0, x.play());
        Due.due("one change", 1, x.count(10));
        Due.due("play", 0, x.play());
        Due.due("two changes", 2, x.count(10));
        Due.due("undo", 1, x.undo());
    }

    private static void asManyAsThereAre() {
        for (int orders = 1; orders <= 30; orders++) {
            StringBuilder text = new StringBuilder();
            for (int i = 0; i < orders; i++) {
                text.append("p;");
            }
            dueOrders(text.toString(), orders);
        }
        dueOrders("w999;w999;w999;w999;w999;w999;w999;w999;w999;w999;w999;w999;", 12);
    }

    private static void textStays() {
        DriftGrinders x = with("w1;f0,9;");
        x.play();
        Due.due("its length", 8, x.count(11));
        Due.due("played again", 2, x.play());
        Due.due("both times", 18, x.count(5));
        Due.write(x, "p");
        dueFault("more typed", x, 8, 1, 1);
        Due.due("the length", 9, x.count(11));
    }

    private static void refusedPlayChangesNothing() {
        String[] texts = {"f0,9;w9;x", "f0,9;w9;s;", "f0,50;g0,50;p;b0,9;w0;", "x", "f0,41;g0,41;s;p;s"};
        for (String text : texts) {
            Twins.leavesAll("24: play of \"" + text + "\"", Due.NOT_POSSIBLE, x -> {
                x.fill(1, 30);
                x.grind(1, 20);
                Due.write(x, text);
            }, DriftGrinders::play);
        }
    }

    private static void shotsCorrectWithinAText() {
        DriftGrinders x = Made.withoutChute();
        x.set(5, 1);
        Due.write(x, "f0,20;b0,20;g0,10;s;g0,10;s;");
        Due.due("play", 6, x.play());
        Due.due("90000 / 200", 450, x.shotOf(1, 1));
        Due.due("corrected to 32: 90000 / 320", 281, x.shotOf(0, 1));
        Due.due("once", 1, x.burrOf(0, 4));
    }

    private static void playAgainAndAgain() {
        DriftGrinders x = with("w1;");
        for (int time = 1; time <= 6; time++) {
            Due.due("play", 1, x.play());
            Due.due("the second", time, x.count(0));
            Due.due("states", Math.min(4, time), x.count(10));
        }
        for (int left = 3; left >= 0; left--) {
            Due.due("undo", left, x.undo());
        }
        Due.due("the first two are dropped", 2, x.count(0));
        Due.due("no more", Due.NOT_POSSIBLE, x.undo());
    }
}
