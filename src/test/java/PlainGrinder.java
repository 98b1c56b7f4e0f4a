import java.util.ArrayDeque;
import java.util.ArrayList;
import java.util.Comparator;
import java.util.Deque;
import java.util.List;
import java.util.regex.Matcher;
import java.util.regex.Pattern;

/**
 * The document once more, in its plainest form and by other means than the program: seconds pass one
 * by one, beans move a tenth of a gram at a time, orders are read by patterns, states are copied whole.
 */
final class PlainGrinder {
    private static final int INVALID = -1000001;
    private static final int NOT_POSSIBLE = -1000002;
    private static final int LIMIT = -1000003;
    private static final int NOT_FOUND = -1000004;

    private static final Pattern ORDER = Pattern.compile(
            "([fgb])(\\d{1,3}),(\\d{1,3});|(w)(\\d{1,3});|([sp]);");
    /** The longest beginning that some order has. */
    private static final Pattern BEGINNING = Pattern.compile(
            "(?:[fgb](?:\\d{1,3}(?:,(?:\\d{1,3})?)?)?|w(?:\\d{1,3})?|[sp])?");

    /** A portion, in the chute or in the basket. */
    private static final class Portion {
        int amount;
        int kind;
        int burr;
        int gap;

        Portion like() {
            Portion other = new Portion();
            other.amount = amount;
            other.kind = kind;
            other.burr = burr;
            other.gap = gap;
            return other;
        }
    }

    private static final class State {
        List<int[]> lots = new ArrayList<>();
        int[] dials = {30, 30};
        int[] warmths = {0, 0};
        int[] groundBy = {0, 0};
        int[] corrections = {0, 0};
        List<Portion> chute = new ArrayList<>();
        List<Portion> basket = new ArrayList<>();
        /** Of each shot: number, time, amount, burr, kind, 0, second, portions. */
        List<int[]> shots = new ArrayList<>();
        int[] settings = {280, 20, 40, 90, 120, 0};
        int second = 0;
        int filled = 0;
        int purged = 0;
        int near = 0;

        State like() {
            State other = new State();
            lots.forEach(lot -> other.lots.add(lot.clone()));
            other.dials = dials.clone();
            other.warmths = warmths.clone();
            other.groundBy = groundBy.clone();
            other.corrections = corrections.clone();
            chute.forEach(portion -> other.chute.add(portion.like()));
            basket.forEach(portion -> other.basket.add(portion.like()));
            other.shots = new ArrayList<>(shots);
            other.settings = settings.clone();
            other.second = second;
            other.filled = filled;
            other.purged = purged;
            other.near = near;
            return other;
        }
    }

    private State state = new State();
    private final Deque<State> history = new ArrayDeque<>();
    private String text = "";

    private static int sum(List<Portion> portions) {
        return portions.stream().mapToInt(portion -> portion.amount).sum();
    }

    private int inHopper() {
        return state.lots.stream().mapToInt(lot -> lot[1]).sum();
    }

    private int gap(int burr, int dial) {
        return Math.max(10, 10 * dial - Math.floorDiv(state.warmths[burr], 5));
    }

    private int flow(int kind, int gap) {
        return state.settings[3 + kind] * 1000 / gap;
    }

    private static boolean inside(int number, int least, int most) {
        return number >= least && number <= most;
    }

    private void tick() {
        state.second++;
        if (state.second % 10 == 0) {
            for (int burr = 0; burr < 2; burr++) {
                if (state.warmths[burr] != 0) {
                    state.warmths[burr] -= Math.max(1, state.warmths[burr] / 16);
                }
            }
        }
    }

    private void pass(int seconds) {
        for (int i = 0; i < seconds; i++) {
            tick();
        }
    }

    private int change(State before, int answer) {
        if (answer >= 0) {
            history.addLast(before);
            if (history.size() == 5) {
                history.removeFirst();
            }
        } else {
            state = before;
        }
        return answer;
    }

    // ---- what the calls do, without the history

    private int doFill(int kind, int amount) {
        if (!inside(kind, 0, 1) || !inside(amount, 1, 999)) {
            return INVALID;
        }
        int lots = state.lots.size();
        if (lots > 0 && state.lots.get(lots - 1)[0] == kind) {
            state.lots.get(lots - 1)[1] += amount;
        } else {
            state.lots.add(new int[] {kind, amount});
        }
        state.filled += amount;
        return state.lots.size() > 6 || inHopper() > 4000 ? LIMIT : inHopper();
    }

    private int doGrind(int burr, int amount) {
        if (!inside(burr, 0, 1) || !inside(amount, 1, 400)) {
            return INVALID;
        }
        if (inHopper() < amount) {
            return NOT_POSSIBLE;
        }
        int gap = gap(burr, state.dials[burr]);
        int lastLot = -1;
        int lot = 0;
        for (int i = 0; i < amount; i++) {
            while (state.lots.get(lot)[1] == 0) {
                lot++;
            }
            state.lots.get(lot)[1]--;
            if (lot != lastLot) {
                Portion portion = new Portion();
                portion.kind = state.lots.get(lot)[0];
                portion.burr = burr;
                portion.gap = gap;
                state.chute.add(portion);
                lastLot = lot;
            }
            state.chute.get(state.chute.size() - 1).amount++;
        }
        state.lots.removeIf(l -> l[1] == 0);
        state.warmths[burr] = Math.min(300, state.warmths[burr] + amount / 4);
        state.groundBy[burr] += amount;
        int out = overflow();
        if (sum(state.basket) > 400) {
            return LIMIT;
        }
        pass((int) Math.ceil(amount / 10.0));
        return out;
    }

    private int overflow() {
        int out = 0;
        Portion from = null;
        Portion to = null;
        while (sum(state.chute) > state.settings[2]) {
            Portion first = state.chute.get(0);
            if (first != from) {
                from = first;
                to = first.like();
                to.amount = 0;
                state.basket.add(to);
            }
            first.amount--;
            to.amount++;
            out++;
            if (first.amount == 0) {
                state.chute.remove(0);
            }
        }
        return out;
    }

    private int doDial(int burr, int dial) {
        if (!inside(burr, 0, 1) || !inside(dial, 1, 60)) {
            return INVALID;
        }
        int was = state.dials[burr];
        state.dials[burr] = dial;
        return was;
    }

    private int doRest(int seconds) {
        if (!inside(seconds, 1, 999)) {
            return INVALID;
        }
        int was = state.warmths[0] + state.warmths[1];
        pass(seconds);
        return was - state.warmths[0] - state.warmths[1];
    }

    private int timeOfBasket() {
        if (state.basket.isEmpty()) {
            return NOT_POSSIBLE;
        }
        long weighed = 0;
        for (Portion portion : state.basket) {
            weighed += (long) portion.amount * flow(portion.kind, portion.gap);
        }
        return (int) (weighed / sum(state.basket));
    }

    private int doShot() {
        int time = timeOfBasket();
        if (time < 0) {
            return time;
        }
        int[] byBurr = {0, 0};
        int[] ofKind = {0, 0};
        for (Portion portion : state.basket) {
            byBurr[portion.burr] += portion.amount;
            ofKind[portion.kind] += portion.amount;
        }
        int burr = byBurr[0] >= byBurr[1] ? 0 : 1;
        int kind = ofKind[0] >= ofKind[1] ? 0 : 1;
        state.shots.add(new int[] {state.shots.size(), time, sum(state.basket), burr, kind, 0,
            state.second, state.basket.size()});
        state.basket.clear();
        int away = Math.abs(time - state.settings[0]);
        if (away <= state.settings[1]) {
            state.near++;
        }
        if (state.settings[5] == 1 && away > state.settings[1]) {
            correction(burr, time);
        }
        pass(time / 10);
        return time;
    }

    private void correction(int burr, int time) {
        int target = state.settings[0];
        int dial = (state.dials[burr] * time + target / 2) / target;
        state.dials[burr] = dial < 1 ? 1 : dial > 60 ? 60 : dial;
        state.corrections[burr]++;
    }

    private int doPurge() {
        int thrown = sum(state.chute);
        state.chute.clear();
        state.purged += thrown;
        return thrown;
    }

    // ---- the calls

    int fill(int kind, int amount) {
        State before = state.like();
        return change(before, doFill(kind, amount));
    }

    int grind(int burr, int amount) {
        State before = state.like();
        return change(before, doGrind(burr, amount));
    }

    int dial(int burr, int dial) {
        State before = state.like();
        return change(before, doDial(burr, dial));
    }

    int rest(int seconds) {
        State before = state.like();
        return change(before, doRest(seconds));
    }

    int shot() {
        State before = state.like();
        return change(before, doShot());
    }

    int purge() {
        State before = state.like();
        return change(before, doPurge());
    }

    int correct(int burr) {
        if (!inside(burr, 0, 1)) {
            return INVALID;
        }
        if (state.shots.isEmpty()) {
            return NOT_POSSIBLE;
        }
        State before = state.like();
        correction(burr, state.shots.get(state.shots.size() - 1)[1]);
        return change(before, state.dials[burr]);
    }

    int set(int what, int value) {
        int[][] ranges = {{100, 600}, {0, 200}, {0, 100}, {30, 300}, {30, 300}, {0, 1}};
        if (!inside(what, 0, 5) || !inside(value, ranges[what][0], ranges[what][1])) {
            return INVALID;
        }
        State before = state.like();
        int was = state.settings[what];
        state.settings[what] = value;
        return change(before, was);
    }

    int burrOf(int burr, int what) {
        if (!inside(burr, 0, 1) || !inside(what, 0, 4)) {
            return INVALID;
        }
        int[] facts = {state.dials[burr], state.warmths[burr], gap(burr, state.dials[burr]),
            state.groundBy[burr], state.corrections[burr]};
        return facts[what];
    }

    int lotOf(int lot, int what) {
        if (lot < 0 || !inside(what, 0, 1)) {
            return INVALID;
        }
        return lot < state.lots.size() ? state.lots.get(lot)[what] : NOT_FOUND;
    }

    int portionOf(int where, int portion, int what) {
        if (!inside(where, 0, 1) || portion < 0 || !inside(what, 0, 4)) {
            return INVALID;
        }
        List<Portion> row = where == 0 ? state.chute : state.basket;
        if (portion >= row.size()) {
            return NOT_FOUND;
        }
        Portion p = row.get(portion);
        int[] facts = {p.amount, p.kind, p.burr, p.gap, flow(p.kind, p.gap)};
        return facts[what];
    }

    private List<int[]> keptLatestFirst() {
        List<int[]> kept = new ArrayList<>();
        for (int i = state.shots.size() - 1; i >= 0 && kept.size() < 12; i--) {
            kept.add(state.shots.get(i));
        }
        return kept;
    }

    private int away(int[] shot) {
        return Math.abs(shot[1] - state.settings[0]);
    }

    int shotOf(int index, int what) {
        if (index < 0 || !inside(what, 0, 7)) {
            return INVALID;
        }
        List<int[]> kept = keptLatestFirst();
        if (index >= kept.size()) {
            return NOT_FOUND;
        }
        return what == 5 ? away(kept.get(index)) : kept.get(index)[what];
    }

    int best(int place) {
        if (place < 0) {
            return INVALID;
        }
        List<int[]> kept = keptLatestFirst();
        kept.sort(Comparator.comparingInt(this::away));
        return place < kept.size() ? kept.get(place)[0] : NOT_FOUND;
    }

    int wouldTake(int burr, int amount) {
        State before = state.like();
        int answer = doGrind(burr, amount);
        if (answer >= 0) {
            answer = timeOfBasket();
        }
        state = before;
        return answer;
    }

    int dialFor(int burr, int kind) {
        if (!inside(burr, 0, 1) || !inside(kind, 0, 1)) {
            return INVALID;
        }
        List<Integer> dials = new ArrayList<>();
        for (int dial = 1; dial <= 60; dial++) {
            dials.add(dial);
        }
        dials.sort(Comparator.comparingInt(d -> Math.abs(flow(kind, gap(burr, d)) - state.settings[0])));
        return dials.get(0);
    }

    int stale(int burr) {
        if (!inside(burr, 0, 1)) {
            return INVALID;
        }
        if (state.lots.isEmpty()) {
            return NOT_POSSIBLE;
        }
        for (int i = state.chute.size() - 1; i >= 0; i--) {
            Portion p = state.chute.get(i);
            boolean fresh = p.kind == state.lots.get(0)[0] && p.burr == burr
                    && p.gap == gap(burr, state.dials[burr]);
            if (!fresh) {
                return sum(state.chute.subList(0, i + 1));
            }
        }
        return 0;
    }

    int coolAfter(int burr, int warmth) {
        if (!inside(burr, 0, 1) || !inside(warmth, 0, 300)) {
            return INVALID;
        }
        State before = state.like();
        int seconds = 0;
        while (state.warmths[burr] > warmth) {
            tick();
            seconds++;
        }
        state = before;
        return seconds;
    }

    int count(int what) {
        if (inside(what, 20, 25)) {
            return state.settings[what - 20];
        }
        int brewed = state.shots.stream().mapToInt(shot -> shot[2]).sum();
        int[] counts = {state.second, state.filled, state.groundBy[0] + state.groundBy[1], brewed,
            state.purged, inHopper(), sum(state.chute), sum(state.basket), state.shots.size(),
            state.near, history.size(), text.length()};
        return inside(what, 0, 11) ? counts[what] : INVALID;
    }

    int undo() {
        if (history.isEmpty()) {
            return NOT_POSSIBLE;
        }
        state = history.removeLast();
        return history.size();
    }

    int type(int character) {
        if (!inside(character, 32, 126)) {
            return INVALID;
        }
        if (text.length() == 60) {
            return LIMIT;
        }
        text += (char) character;
        return text.length();
    }

    int clearText() {
        int had = text.length();
        text = "";
        return had;
    }

    /** Does all orders: answers how many, or position, reason and cause of the fault. */
    private int[] doText() {
        int position = 0;
        int orders = 0;
        while (position < text.length()) {
            String rest = text.substring(position);
            Matcher order = ORDER.matcher(rest);
            if (!order.lookingAt()) {
                Matcher beginning = BEGINNING.matcher(rest);
                int cause = beginning.lookingAt() ? beginning.end() : 0;
                return new int[] {position, 1, cause};
            }
            int answer = doOrder(order);
            if (answer < 0) {
                return new int[] {position, 2, answer};
            }
            orders++;
            position += order.end();
        }
        return new int[] {orders};
    }

    private int doOrder(Matcher order) {
        if (order.group(4) != null) {
            return doRest(Integer.parseInt(order.group(5)));
        }
        if (order.group(6) != null) {
            return order.group(6).equals("s") ? doShot() : doPurge();
        }
        int first = Integer.parseInt(order.group(2));
        int second = Integer.parseInt(order.group(3));
        switch (order.group(1)) {
            case "f":
                return doFill(first, second);
            case "g":
                return doGrind(first, second);
            default:
                return doDial(first, second);
        }
    }

    int fault(int what) {
        if (!inside(what, 0, 2)) {
            return INVALID;
        }
        State before = state.like();
        int[] outcome = doText();
        state = before;
        return outcome.length == 3 ? outcome[what] : NOT_FOUND;
    }

    int play() {
        State before = state.like();
        int[] outcome = doText();
        return change(before, outcome.length == 3 ? NOT_POSSIBLE : outcome[0]);
    }
}
