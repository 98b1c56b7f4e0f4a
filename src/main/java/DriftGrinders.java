/**
 * A coffee grinder with two burrs whose gaps become narrower as they warm.
 *
 * Every change is tried on a spare state, which becomes the present one only if the answer is no
 * error: so an error changes nothing, and the state before the change goes into the history as it is.
 * All states are made with the object and used again, so that no call makes anything new.
 */
public final class DriftGrinders {
    public static final int INVALID_ARGUMENT = -1000001;
    public static final int NOT_POSSIBLE = -1000002;
    public static final int LIMIT_REACHED = -1000003;
    public static final int NOT_FOUND = -1000004;

    private static final int FILL_MOST = 999;
    private static final int GRIND_MOST = 400;
    private static final int REST_MOST = 999;
    private static final int HOPPER_MOST = 4000;
    private static final int LOTS_MOST = 6;
    private static final int CHUTE_MOST = 100;
    private static final int BASKET_MOST = 400;
    private static final int DIAL_MOST = 60;
    private static final int WARMTH_MOST = 300;
    private static final int GAP_LEAST = 10;
    private static final int COOLING_EVERY = 10;
    private static final int SHOTS_KEPT = 12;
    private static final int HISTORY_MOST = 4;
    private static final int TEXT_MOST = 60;

    private static final int TARGET = 0;
    private static final int TOLERANCE = 1;
    private static final int CHUTE_HOLDS = 2;
    private static final int HARDNESS_0 = 3;
    private static final int HARDNESS_1 = 4;
    private static final int CORRECTS_ITSELF = 5;
    private static final int[] SETTING_LEAST = {100, 0, 0, 30, 30, 0};
    private static final int[] SETTING_MOST = {600, 200, 100, 300, 300, 1};
    private static final int COUNT_OF_SETTING_0 = 20;

    private static final int KIND_BIT = 1;
    private static final int BURR_BIT = 2;

    private final History history = new History();
    private final Orders text = new Orders();
    private Grinder now = new Grinder();
    private Grinder spare = new Grinder();

    public DriftGrinders() {
    }

    // ---- hopper, grinding

    public int fill(int kind, int amount) {
        return keepIfDone(spareLikeNow().fillIn(kind, amount));
    }

    public int grind(int burr, int amount) {
        return keepIfDone(spareLikeNow().grindBy(burr, amount));
    }

    public int dial(int burr, int dial) {
        return keepIfDone(spareLikeNow().turnDial(burr, dial));
    }

    public int rest(int seconds) {
        return keepIfDone(spareLikeNow().letPass(seconds));
    }

    public int shot() {
        return keepIfDone(spareLikeNow().makeShot());
    }

    public int purge() {
        return keepIfDone(spareLikeNow().emptyChute());
    }

    public int correct(int burr) {
        return keepIfDone(spareLikeNow().correctByLatest(burr));
    }

    public int set(int what, int value) {
        return keepIfDone(spareLikeNow().changeSetting(what, value));
    }

    // ---- what there is

    public int burrOf(int burr, int what) {
        if (!isZeroOrOne(burr) || what < 0 || what > 4) {
            return INVALID_ARGUMENT;
        }
        return now.burrNumbered(burr).tell(what);
    }

    public int lotOf(int lot, int what) {
        if (lot < 0 || what < 0 || what > 1) {
            return INVALID_ARGUMENT;
        }
        return now.hopper.tell(lot, what);
    }

    public int portionOf(int where, int portion, int what) {
        if (!isZeroOrOne(where) || portion < 0 || what < 0 || what > 4) {
            return INVALID_ARGUMENT;
        }
        return now.tellPortion(where == 0 ? now.chute : now.basket, portion, what);
    }

    public int shotOf(int index, int what) {
        if (index < 0 || what < 0 || what > 7) {
            return INVALID_ARGUMENT;
        }
        return now.shots.tell(index, what, now.settings[TARGET]);
    }

    public int best(int place) {
        if (place < 0) {
            return INVALID_ARGUMENT;
        }
        return now.shots.numberAtPlace(place, now.settings[TARGET]);
    }

    // ---- what would be

    public int wouldTake(int burr, int amount) {
        Grinder trial = spareLikeNow();
        int answer = trial.grindBy(burr, amount);
        return answer < 0 ? answer : trial.timeOfBasket();
    }

    public int dialFor(int burr, int kind) {
        if (!isZeroOrOne(burr) || !isZeroOrOne(kind)) {
            return INVALID_ARGUMENT;
        }
        return now.nearestDial(now.burrNumbered(burr), kind);
    }

    public int stale(int burr) {
        if (!isZeroOrOne(burr)) {
            return INVALID_ARGUMENT;
        }
        return now.staleFor(burr);
    }

    public int coolAfter(int burr, int warmth) {
        if (!isZeroOrOne(burr) || warmth < 0 || warmth > WARMTH_MOST) {
            return INVALID_ARGUMENT;
        }
        return now.secondsToCool(now.burrNumbered(burr), warmth);
    }

    public int count(int what) {
        switch (what) {
            case 10:
                return history.states;
            case 11:
                return text.length;
            default:
                return now.tell(what);
        }
    }

    public int undo() {
        if (history.states < 1) {
            return NOT_POSSIBLE;
        }
        now = history.takeLatest(now);
        return history.states;
    }

    // ---- texts

    public int type(int character) {
        if (character < 32 || character > 126) {
            return INVALID_ARGUMENT;
        }
        return text.append((char) character);
    }

    public int clearText() {
        int had = text.length;
        text.length = 0;
        return had;
    }

    public int fault(int what) {
        if (what < 0 || what > 2) {
            return INVALID_ARGUMENT;
        }
        text.doAllOn(spareLikeNow());
        return text.tellFault(what);
    }

    public int play() {
        text.doAllOn(spareLikeNow());
        return keepIfDone(text.hasFault() ? NOT_POSSIBLE : text.ordersDone);
    }

    private Grinder spareLikeNow() {
        spare.copyFrom(now);
        return spare;
    }

    /** All changes answer 0 or more; what is below is an error, and leaves the present state. */
    private int keepIfDone(int answer) {
        if (answer < 0) {
            return answer;
        }
        Grinder before = now;
        now = spare;
        spare = history.add(before);
        return answer;
    }

    private static boolean isZeroOrOne(int number) {
        return number == 0 || number == 1;
    }

    private static int fallOf(int warmth) {
        if (warmth < 1) {
            return 0;
        }
        return warmth < 16 ? 1 : warmth / 16;
    }

    private static int flowOf(int hardness, int gap) {
        return gap < GAP_LEAST ? 0 : hardness * 1000 / gap;
    }

    /** Kind, burr and gap in one number, as portions are alike only if all three are. */
    private static int markOf(int kind, int burr, int gap) {
        return gap << 2 | (burr == 0 ? 0 : BURR_BIT) | (kind == 0 ? 0 : KIND_BIT);
    }

    private static int kindOfMark(int mark) {
        return mark & KIND_BIT;
    }

    private static int burrOfMark(int mark) {
        return (mark & BURR_BIT) >> 1;
    }

    private static int gapOfMark(int mark) {
        return mark >> 2;
    }

    /** All that a change can change: everything but the text and the history. */
    private static final class Grinder {
        private final Hopper hopper = new Hopper();
        private final Burr burr0 = new Burr();
        private final Burr burr1 = new Burr();
        // ahead of its overflow the chute has what each lot gave besides what it held
        private final Row chute = new Row(CHUTE_MOST + LOTS_MOST);
        private final Row basket = new Row(BASKET_MOST);
        private final Shots shots = new Shots();
        private final int[] settings = {280, 20, 40, 90, 120, 0};
        private int second;
        private int filled;
        private int ground;
        private int brewed;
        private int purged;
        private int shotsNearTarget;

        void copyFrom(Grinder other) {
            hopper.copyFrom(other.hopper);
            burr0.copyFrom(other.burr0);
            burr1.copyFrom(other.burr1);
            chute.copyFrom(other.chute);
            basket.copyFrom(other.basket);
            shots.copyFrom(other.shots);
            System.arraycopy(other.settings, 0, settings, 0, settings.length);
            second = other.second;
            filled = other.filled;
            ground = other.ground;
            brewed = other.brewed;
            purged = other.purged;
            shotsNearTarget = other.shotsNearTarget;
        }

        Burr burrNumbered(int burr) {
            return burr == 0 ? burr0 : burr1;
        }

        int fillIn(int kind, int amount) {
            if (!isZeroOrOne(kind) || amount < 1 || amount > FILL_MOST) {
                return INVALID_ARGUMENT;
            }
            if (!hopper.hasRoomFor(kind, amount)) {
                return LIMIT_REACHED;
            }
            hopper.pourIn(kind, amount);
            filled += amount;
            return hopper.amount();
        }

        int grindBy(int burr, int amount) {
            if (!isZeroOrOne(burr) || amount < 1 || amount > GRIND_MOST) {
                return INVALID_ARGUMENT;
            }
            if (hopper.amount() < amount) {
                return NOT_POSSIBLE;
            }
            int out = Math.max(0, chute.total + amount - settings[CHUTE_HOLDS]);
            if (basket.total + out > BASKET_MOST) {
                return LIMIT_REACHED;
            }
            Burr grinding = burrNumbered(burr);
            hopper.letOut(amount, burr, grinding.gap(), chute);
            grinding.warmByGrinding(amount);
            chute.letOut(out, 0, basket);
            ground += amount;
            passSeconds((amount + 9) / 10);
            return out;
        }

        int turnDial(int burr, int dial) {
            if (!isZeroOrOne(burr) || dial < 1 || dial > DIAL_MOST) {
                return INVALID_ARGUMENT;
            }
            Burr turned = burrNumbered(burr);
            int was = turned.dial;
            turned.dial = dial;
            return was;
        }

        int letPass(int seconds) {
            if (seconds < 1 || seconds > REST_MOST) {
                return INVALID_ARGUMENT;
            }
            int was = burr0.warmth + burr1.warmth;
            passSeconds(seconds);
            return was - burr0.warmth - burr1.warmth;
        }

        private void passSeconds(int seconds) {
            int times = (second + seconds) / COOLING_EVERY - second / COOLING_EVERY;
            burr0.cool(times);
            burr1.cool(times);
            second += seconds;
        }

        int makeShot() {
            int time = timeOfBasket();
            if (time < 0) {
                return time;
            }
            int burr = basket.isMostly(BURR_BIT) ? 1 : 0;
            int kind = basket.isMostly(KIND_BIT) ? 1 : 0;
            shots.add(time, basket.total, burr, kind, second, basket.length);
            brewed += basket.total;
            basket.clear();
            judge(time, burrNumbered(burr));
            passSeconds(time / 10);
            return time;
        }

        private void judge(int time, Burr burr) {
            if (Math.abs(time - settings[TARGET]) <= settings[TOLERANCE]) {
                shotsNearTarget++;
            } else if (settings[CORRECTS_ITSELF] == 1) {
                burr.correctBy(time, settings[TARGET]);
            }
        }

        int timeOfBasket() {
            if (basket.total < 1) {
                return NOT_POSSIBLE;
            }
            int sum = 0;
            for (int i = 0; i < basket.length; i++) {
                sum += basket.amountAt(i) * flowOfMark(basket.markAt(i));
            }
            return sum / basket.total;
        }

        private int flowOfMark(int mark) {
            return flowOf(hardnessOf(kindOfMark(mark)), gapOfMark(mark));
        }

        private int hardnessOf(int kind) {
            return kind == 0 ? settings[HARDNESS_0] : settings[HARDNESS_1];
        }

        int emptyChute() {
            int thrown = chute.total;
            chute.clear();
            purged += thrown;
            return thrown;
        }

        int correctByLatest(int burr) {
            if (!isZeroOrOne(burr)) {
                return INVALID_ARGUMENT;
            }
            if (shots.kept < 1) {
                return NOT_POSSIBLE;
            }
            Burr corrected = burrNumbered(burr);
            corrected.correctBy(shots.latestTime(), settings[TARGET]);
            return corrected.dial;
        }

        int changeSetting(int what, int value) {
            if (what < 0 || what >= settings.length
                    || value < SETTING_LEAST[what] || value > SETTING_MOST[what]) {
                return INVALID_ARGUMENT;
            }
            int was = settings[what];
            settings[what] = value;
            return was;
        }

        int tellPortion(Row row, int portion, int what) {
            if (portion >= row.length) {
                return NOT_FOUND;
            }
            int mark = row.markAt(portion);
            switch (what) {
                case 0:
                    return row.amountAt(portion);
                case 1:
                    return kindOfMark(mark);
                case 2:
                    return burrOfMark(mark);
                case 3:
                    return gapOfMark(mark);
                default:
                    return flowOfMark(mark);
            }
        }

        int nearestDial(Burr burr, int kind) {
            int nearest = 1;
            for (int dial = 2; dial <= DIAL_MOST; dial++) {
                if (awayAtDial(dial, burr, kind) < awayAtDial(nearest, burr, kind)) {
                    nearest = dial;
                }
            }
            return nearest;
        }

        private int awayAtDial(int dial, Burr burr, int kind) {
            return Math.abs(flowOf(hardnessOf(kind), burr.gapAt(dial)) - settings[TARGET]);
        }

        int staleFor(int burr) {
            if (hopper.isEmpty()) {
                return NOT_POSSIBLE;
            }
            int fresh = markOf(hopper.firstKind(), burr, burrNumbered(burr).gap());
            return chute.amountUpToLastUnlike(fresh);
        }

        int secondsToCool(Burr burr, int warmth) {
            int times = burr.coolingsTo(warmth);
            // the first cooling is nearer, as some of its seconds may have passed already
            return times < 1 ? 0 : times * COOLING_EVERY - second % COOLING_EVERY;
        }

        int tell(int what) {
            switch (what) {
                case 0:
                    return second;
                case 1:
                    return filled;
                case 2:
                    return ground;
                case 3:
                    return brewed;
                case 4:
                    return purged;
                case 5:
                    return hopper.amount();
                case 6:
                    return chute.total;
                case 7:
                    return basket.total;
                case 8:
                    return shots.made;
                case 9:
                    return shotsNearTarget;
                default:
                    return tellSetting(what);
            }
        }

        private int tellSetting(int what) {
            if (what < COUNT_OF_SETTING_0 || what >= COUNT_OF_SETTING_0 + settings.length) {
                return INVALID_ARGUMENT;
            }
            return settings[what - COUNT_OF_SETTING_0];
        }
    }

    private static final class Hopper {
        // what is not ground has neither burr nor gap: the mark of a lot is its kind
        private final Row lots = new Row(LOTS_MOST);

        void copyFrom(Hopper other) {
            lots.copyFrom(other.lots);
        }

        int amount() {
            return lots.total;
        }

        boolean isEmpty() {
            return lots.length < 1;
        }

        boolean hasRoomFor(int kind, int amount) {
            return lots.total + amount <= HOPPER_MOST && (lots.length < LOTS_MOST || endsWith(kind));
        }

        private boolean endsWith(int kind) {
            return lots.length > 0 && lots.markAt(lots.length - 1) == kind;
        }

        void pourIn(int kind, int amount) {
            if (endsWith(kind)) {
                lots.addToLast(amount);
            } else {
                lots.append(amount, kind);
            }
        }

        void letOut(int amount, int burr, int gap, Row into) {
            lots.letOut(amount, markOf(0, burr, gap), into);
        }

        int firstKind() {
            return lots.markAt(0);
        }

        int tell(int lot, int what) {
            if (lot < 0 || lot >= lots.length) {
                return NOT_FOUND;
            }
            return what == 0 ? lots.markAt(lot) : lots.amountAt(lot);
        }
    }

    private static final class Burr {
        private int dial = 30;
        private int warmth;
        private int ground;
        private int corrections;

        void copyFrom(Burr other) {
            dial = other.dial;
            warmth = other.warmth;
            ground = other.ground;
            corrections = other.corrections;
        }

        int gap() {
            return gapAt(dial);
        }

        int gapAt(int someDial) {
            return Math.max(GAP_LEAST, 10 * someDial - warmth / 5);
        }

        void warmByGrinding(int amount) {
            warmth = Math.min(WARMTH_MOST, warmth + amount / 4);
            ground += amount;
        }

        void cool(int times) {
            for (int i = 0; i < times && warmth > 0; i++) {
                warmth -= fallOf(warmth);
            }
        }

        int coolingsTo(int warmthThen) {
            int times = 0;
            // each cooling takes 1 at least, so that there are no more of them than warmth
            for (int left = warmth; left > warmthThen && times < WARMTH_MOST; left -= fallOf(left)) {
                times++;
            }
            return times;
        }

        void correctBy(int time, int target) {
            int corrected = (dial * time + target / 2) / Math.max(1, target);
            dial = Math.max(1, Math.min(DIAL_MOST, corrected));
            corrections++;
        }

        int tell(int what) {
            switch (what) {
                case 0:
                    return dial;
                case 1:
                    return warmth;
                case 2:
                    return gap();
                case 3:
                    return ground;
                default:
                    return corrections;
            }
        }
    }

    /** Amounts of beans one behind another, the earliest first, each with the mark of what it is. */
    private static final class Row {
        private final int[] amounts;
        private final int[] marks;
        private int length;
        private int total;

        Row(int most) {
            int room = Math.max(0, most);
            amounts = new int[room];
            marks = new int[room];
        }

        void copyFrom(Row other) {
            length = Math.min(other.length, amounts.length);
            total = other.total;
            System.arraycopy(other.amounts, 0, amounts, 0, length);
            System.arraycopy(other.marks, 0, marks, 0, length);
        }

        void clear() {
            length = 0;
            total = 0;
        }

        /** There is always room: an amount is 1 at least, and the amounts altogether are limited. */
        void append(int amount, int mark) {
            if (length < amounts.length) {
                amounts[length] = amount;
                marks[length] = mark;
                length++;
                total += amount;
            }
        }

        void addToLast(int amount) {
            if (length > 0) {
                amounts[length - 1] += amount;
                total += amount;
            }
        }

        /** Lets the earliest ones go, the last of them in part if it has more than is to go. */
        void letOut(int amount, int addedToMarks, Row into) {
            int left = amount;
            int emptied = 0;
            for (int i = 0; i < length && left > 0; i++) {
                int part = Math.min(left, amounts[i]);
                into.append(part, marks[i] | addedToMarks);
                amounts[i] -= part;
                left -= part;
                if (amounts[i] == 0) {
                    emptied++;
                }
            }
            total -= amount - left;
            dropFirst(emptied);
        }

        private void dropFirst(int emptied) {
            length -= emptied;
            System.arraycopy(amounts, emptied, amounts, 0, length);
            System.arraycopy(marks, emptied, marks, 0, length);
        }

        int amountAt(int index) {
            return index < 0 || index >= length ? 0 : amounts[index];
        }

        int markAt(int index) {
            return index < 0 || index >= length ? 0 : marks[index];
        }

        /** Whether more than half has this bit in its mark: what is alike counts for 0. */
        boolean isMostly(int bit) {
            int having = 0;
            for (int i = 0; i < length; i++) {
                having += (marks[i] & bit) != 0 ? amounts[i] : 0;
            }
            return having > total - having;
        }

        int amountUpToLastUnlike(int mark) {
            int upToHere = 0;
            int upToUnlike = 0;
            for (int i = 0; i < length; i++) {
                upToHere += amounts[i];
                if (marks[i] != mark) {
                    upToUnlike = upToHere;
                }
            }
            return upToUnlike;
        }
    }

    /** The shots that are kept, the latest first. */
    private static final class Shots {
        // what shotOf tells of a shot, in its order; how far it is from the target is never kept
        private static final int NUMBER = 0;
        private static final int TIME = 1;
        private static final int AMOUNT = 2;
        private static final int BURR = 3;
        private static final int KIND = 4;
        private static final int AWAY = 5;
        private static final int SECOND = 6;
        private static final int PORTIONS = 7;
        private static final int FACTS = 8;

        private final int[] facts = new int[SHOTS_KEPT * FACTS];
        private int kept;
        private int made;

        void copyFrom(Shots other) {
            System.arraycopy(other.facts, 0, facts, 0, facts.length);
            kept = other.kept;
            made = other.made;
        }

        void add(int time, int amount, int burr, int kind, int second, int portions) {
            System.arraycopy(facts, 0, facts, FACTS, facts.length - FACTS);
            facts[NUMBER] = made;
            facts[TIME] = time;
            facts[AMOUNT] = amount;
            facts[BURR] = burr;
            facts[KIND] = kind;
            facts[SECOND] = second;
            facts[PORTIONS] = portions;
            kept = Math.min(SHOTS_KEPT, kept + 1);
            made++;
        }

        int latestTime() {
            return facts[TIME];
        }

        int tell(int index, int what, int target) {
            if (index < 0 || index >= kept || what < 0 || what >= FACTS) {
                return NOT_FOUND;
            }
            return what == AWAY ? awayFrom(target, index) : facts[index * FACTS + what];
        }

        private int awayFrom(int target, int index) {
            return Math.abs(facts[index * FACTS + TIME] - target);
        }

        int numberAtPlace(int place, int target) {
            for (int i = 0; i < kept; i++) {
                if (placeOf(i, target) == place) {
                    return facts[i * FACTS + NUMBER];
                }
            }
            return NOT_FOUND;
        }

        private int placeOf(int index, int target) {
            int away = awayFrom(target, index);
            int better = 0;
            for (int i = 0; i < kept; i++) {
                int other = awayFrom(target, i);
                if (other < away || other == away && i < index) {
                    better++;
                }
            }
            return better;
        }
    }

    /** The states before the latest changes. It has all its states from the start, and trades them. */
    private static final class History {
        private Grinder latest = new Grinder();
        private Grinder second = new Grinder();
        private Grinder third = new Grinder();
        private Grinder oldest = new Grinder();
        private int states;

        /** Takes a state in; gives one back that is in the history no more, free for other use. */
        Grinder add(Grinder state) {
            Grinder dropped = oldest;
            oldest = third;
            third = second;
            second = latest;
            latest = state;
            states = Math.min(HISTORY_MOST, states + 1);
            return dropped;
        }

        /** Gives the latest state out; takes one in that is not needed any more, for later use. */
        Grinder takeLatest(Grinder unneeded) {
            Grinder taken = latest;
            latest = second;
            second = third;
            third = oldest;
            oldest = unneeded;
            states = Math.max(0, states - 1);
            return taken;
        }
    }

    /** The text, its order that was read last, and what came of doing its orders. */
    private static final class Orders {
        private static final int NO_FAULT = 0;
        private static final int NOT_OF_THE_FORM = 1;
        private static final int REFUSED = 2;
        private static final int DIGITS_MOST = 3;
        private static final int NO_NUMBER = -1;
        private static final char NO_SIGN = 0;

        private final char[] signs = new char[TEXT_MOST];
        private int length;

        private int at;
        private char letter;
        private int firstNumber;
        private int secondNumber;

        private int ordersDone;
        private int faultPosition;
        private int faultReason;
        private int faultCause;

        int append(char sign) {
            if (length < 0 || length >= TEXT_MOST) {
                return LIMIT_REACHED;
            }
            signs[length] = sign;
            length++;
            return length;
        }

        boolean hasFault() {
            return faultReason != NO_FAULT;
        }

        int tellFault(int what) {
            if (!hasFault()) {
                return NOT_FOUND;
            }
            switch (what) {
                case 0:
                    return faultPosition;
                case 1:
                    return faultReason;
                default:
                    return faultCause;
            }
        }

        /** Does the orders one after another, up to the first one that is not possible. */
        void doAllOn(Grinder grinder) {
            faultReason = NO_FAULT;
            at = 0;
            for (ordersDone = 0; ordersDone < TEXT_MOST && at < length; ordersDone++) {
                int start = at;
                if (!readOrder()) {
                    blame(start, NOT_OF_THE_FORM, at - start);
                    return;
                }
                int answer = doOrderOn(grinder);
                if (answer < 0) {
                    blame(start, REFUSED, answer);
                    return;
                }
            }
        }

        private void blame(int position, int reason, int cause) {
            faultPosition = position;
            faultReason = reason;
            faultCause = cause;
        }

        /** Reads an order; if it is not of the form, stays where it breaks off. */
        private boolean readOrder() {
            letter = signHere();
            switch (letter) {
                case 'f':
                case 'g':
                case 'b':
                    at++;
                    return readFirstNumber() && passSign(',') && readSecondNumber() && passSign(';');
                case 'w':
                    at++;
                    return readFirstNumber() && passSign(';');
                case 's':
                case 'p':
                    at++;
                    return passSign(';');
                default:
                    return false;
            }
        }

        private boolean readFirstNumber() {
            firstNumber = readNumber();
            return firstNumber != NO_NUMBER;
        }

        private boolean readSecondNumber() {
            secondNumber = readNumber();
            return secondNumber != NO_NUMBER;
        }

        private int readNumber() {
            int number = NO_NUMBER;
            for (int digits = 0; digits < DIGITS_MOST && isDigit(signHere()); digits++) {
                number = Math.max(0, number) * 10 + (signHere() - '0');
                at++;
            }
            return number;
        }

        private boolean passSign(char sign) {
            if (signHere() != sign) {
                return false;
            }
            at++;
            return true;
        }

        /** Behind the text there is a sign that cannot be typed, at which every order breaks off. */
        private char signHere() {
            return at < 0 || at >= length || at >= TEXT_MOST ? NO_SIGN : signs[at];
        }

        private static boolean isDigit(char sign) {
            return sign >= '0' && sign <= '9';
        }

        private int doOrderOn(Grinder grinder) {
            switch (letter) {
                case 'f':
                    return grinder.fillIn(firstNumber, secondNumber);
                case 'g':
                    return grinder.grindBy(firstNumber, secondNumber);
                case 'b':
                    return grinder.turnDial(firstNumber, secondNumber);
                case 'w':
                    return grinder.letPass(firstNumber);
                case 's':
                    return grinder.makeShot();
                default:
                    return grinder.emptyChute();
            }
        }
    }
}
