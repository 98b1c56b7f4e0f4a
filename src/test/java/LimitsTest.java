import java.lang.reflect.Array;
import java.lang.reflect.Field;
import java.lang.reflect.Modifier;
import java.util.ArrayDeque;
import java.util.Collections;
import java.util.Deque;
import java.util.IdentityHashMap;
import java.util.Set;

/** The farthest states that a run can reach, any arguments in them, and how much an object takes up. */
public final class LimitsTest {
    private static final int[] ODD = {Integer.MIN_VALUE, Integer.MIN_VALUE + 19, -1000001, -2, -1, 0, 1, 2,
        5, 6, 7, 10, 11, 12, 19, 20, 25, 26, 60, 61, 100, 300, 400, 401, 999, 1000, 65536, Integer.MAX_VALUE};

    private LimitsTest() {
    }

    public static void main(String[] args) {
        basketOfFourHundredPortions();
        chuteOfMostPortions();
        longestRun();
        anyArgumentsAnywhere();
        roomOfAnObject();
        Due.end();
    }

    private static void basketOfFourHundredPortions() {
        DriftGrinders x = new DriftGrinders();
        x.set(2, 0);
        x.fill(0, 500);
        Due.write(x, "g0,1;g1,1;g0,1;g1,1;g0,1;g1,1;g0,1;g1,1;g0,1;g1,1;");
        for (int i = 0; i < 40; i++) {
            Due.due("3: ten portions more", 10, x.play());
        }
        Due.due("3: the last portion", 1, x.portionOf(1, 399, 0));
        Due.due("3: its burr", 1, x.portionOf(1, 399, 2));
        Due.due("3: no more of them", Due.NOT_FOUND, x.portionOf(1, 400, 0));
        Due.due("3: no more beans", Due.LIMIT, x.grind(0, 1));
        Due.due("24: no more beans", Due.NOT_POSSIBLE, x.play());
        x.shot();
        Due.due("13: of how many portions", 400, x.shotOf(0, 7));
        Due.due("6: both burrs alike", 0, x.shotOf(0, 3));
        x.undo();
        Due.due("20: all portions again", 1, x.portionOf(1, 399, 0));
    }

    private static void chuteOfMostPortions() {
        DriftGrinders x = new DriftGrinders();
        x.set(2, 100);
        x.fill(0, 101);
        Due.write(x, "g1,1;g1,1;g1,1;g1,1;g1,1;g1,1;g1,1;g1,1;g1,1;g1,1;");
        for (int i = 0; i < 10; i++) {
            x.play();
        }
        Due.due("3: a hundred portions", 1, x.portionOf(0, 99, 0));
        for (int lot = 1; lot < 6; lot++) {
            x.fill(lot % 2, 1);
        }
        Due.due("3: one of each lot more", 6, x.grind(0, 6));
        Due.due("3: the last of them", 1, x.portionOf(0, 99, 1));
        Due.due("3: six came out", 1, x.portionOf(1, 5, 0));
        Due.due("3: no seventh", Due.NOT_FOUND, x.portionOf(1, 6, 0));
        Due.due("3: the first one by burr 0", 0, x.portionOf(0, 94, 2));
        Due.due("3: the last one by burr 1", 1, x.portionOf(0, 93, 2));
    }

    private static void longestRun() {
        DriftGrinders x = new DriftGrinders();
        Due.write(x, "w999;w999;w999;w999;w999;w999;w999;w999;w999;w999;w999;w999;");
        for (int i = 0; i < 450; i++) {
            x.play();
        }
        Due.due("19: its seconds", 450 * 12 * 999, x.count(0));
    }

    private static void anyArgumentsAnywhere() {
        for (int stage = 0; stage < 4; stage++) {
            for (int a : ODD) {
                for (int b : ODD) {
                    callAll(atStage(stage), a, b);
                }
            }
            DriftGrinders x = atStage(stage);
            for (int a : ODD) {
                for (int b : ODD) {
                    for (int c : ODD) {
                        x.portionOf(a, b, c);
                    }
                }
            }
        }
        Due.due("no call throws", 0, 0);
    }

    private static DriftGrinders atStage(int stage) {
        DriftGrinders x = new DriftGrinders();
        if (stage > 0) {
            x.fill(0, 100);
            x.fill(1, 300);
            x.grind(0, 120);
            Due.write(x, "s;g0");
        }
        if (stage > 1) {
            x.shot();
            x.grind(1, 60);
        }
        if (stage > 2) {
            x.grind(1, 220);
            x.set(5, 1);
        }
        return x;
    }

    private static void callAll(DriftGrinders x, int a, int b) {
        x.fill(a, b);
        x.grind(a, b);
        x.dial(a, b);
        x.rest(a);
        x.set(a, b);
        x.shot();
        x.correct(a);
        x.burrOf(a, b);
        x.lotOf(a, b);
        x.shotOf(a, b);
        x.best(a);
        x.wouldTake(a, b);
        x.dialFor(a, b);
        x.stale(a);
        x.coolAfter(a, b);
        x.count(a);
        x.fault(a);
        x.type(a);
        x.type(b);
        x.play();
        x.purge();
        x.undo();
        x.clearText();
    }

    /** A run may make an object with every call: all of them live in one room. */
    private static void roomOfAnObject() {
        Set<Object> seen = Collections.newSetFromMap(new IdentityHashMap<>());
        Deque<Object> open = new ArrayDeque<>();
        open.add(new DriftGrinders());
        long parts = 0;
        while (!open.isEmpty()) {
            Object object = open.remove();
            if (seen.add(object)) {
                parts += partsOf(object, open);
            }
        }
        System.out.println("an object takes " + seen.size() + " objects and arrays, " + parts + " parts");
        Due.due("512 objects have few enough objects and arrays", 1, seen.size() * 512L < 600_000L / 4 ? 1 : 0);
        Due.due("512 objects have few enough parts", 1, parts * 512L < 7_300_000L * 3 / 4 ? 1 : 0);
    }

    private static long partsOf(Object object, Deque<Object> open) {
        if (object.getClass().isArray()) {
            return Array.getLength(object);
        }
        long parts = 0;
        try {
            for (Field field : object.getClass().getDeclaredFields()) {
                if (!Modifier.isStatic(field.getModifiers())) {
                    parts++;
                    field.setAccessible(true);
                    Object value = field.get(object);
                    if (value != null && !field.getType().isPrimitive()) {
                        open.add(value);
                    }
                }
            }
        } catch (IllegalAccessException e) {
            throw new IllegalStateException(e);
        }
        return parts;
    }
}
