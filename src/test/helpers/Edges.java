import java.lang.reflect.InvocationTargetException;
import java.lang.reflect.Method;
import java.util.ArrayList;
import java.util.Arrays;
import java.util.Comparator;
import java.util.List;
import java.util.function.IntToLongFunction;
import java.util.function.Supplier;
import java.util.function.ToLongFunction;

/** What the tests of the sentences have in common: each one of them names its own by Says. */
abstract class Edges {
    static final int NO_SUCH = -1, BAD_VALUE = -2, BAD_TEXT = -3, TOO_MANY = -4, NOT_POSSIBLE = -5, NONE = -6;
    static final int ROD = 0, AIR = 1, BASE = 2, LIMIT = 3;
    static final int MIN = Integer.MIN_VALUE, MAX = Integer.MAX_VALUE;
    static final int RIGHT = 1000000000;
    static final int NO_RATE = 100000;
    static final int ALL_HOURS = 9999;

    private static final int[] HOURS_TOLD = {0, 1, 24, 46, 47, 48};

    private static String sentence = "";
    private static int asked = 0;
    private static int wrong = 0;

    /** Runs every test of a class, and ends with exit code 1 if one fails, or asks nothing. */
    static void runAll(Class<?> tests) {
        Method[] methods = tests.getDeclaredMethods();
        Arrays.sort(methods, Comparator.comparing(Method::getName));
        int sentences = 0;
        for (Method method : methods) {
            Says[] says = method.getAnnotationsByType(Says.class);
            if (says.length > 0) {
                sentences++;
                run(method, says);
            }
        }
        System.out.println(wrong == 0 ? sentences + " tests hold" : wrong + " answers are not as due");
        if (wrong != 0 || sentences == 0) {
            System.exit(1);
        }
    }

    private static void run(Method method, Says[] says) {
        sentence = "";
        for (Says one : says) {
            sentence += one.where() + ", \"" + one.words() + "\" ";
        }
        sentence += "(" + method.getName() + ")";
        int before = asked;
        try {
            method.setAccessible(true);
            method.invoke(null);
        } catch (InvocationTargetException | IllegalAccessException e) {
            fail("ended by " + (e.getCause() == null ? e : e.getCause()));
        }
        if (asked == before) {
            fail("asks nothing");
        }
    }

    private static void fail(String how) {
        wrong++;
        System.out.println(sentence + ": " + how);
    }

    static void due(String call, long got, long want) {
        asked++;
        if (got != want) {
            fail(call + " answered " + got + ", due is " + want);
        }
    }

    static void same(String call, List<Long> got, List<Long> want) {
        asked++;
        for (int i = 0; i < want.size(); i++) {
            if (!got.get(i).equals(want.get(i))) {
                fail(call + ": number " + i + " of what is told is " + got.get(i) + ", due is " + want.get(i));
                return;
            }
        }
    }

    static void differs(String call, List<Long> got, List<Long> other) {
        asked++;
        if (got.equals(other)) {
            fail(call + ": nothing that is told is different");
        }
    }

    /** Both ends of a range: the last values that are allowed, the first ones that are not, and the farthest ones. */
    static void range(String what, int least, int greatest, long error, IntToLongFunction call) {
        due(what + " " + (least - 1), call.applyAsLong(least - 1), error);
        due(what + " " + (greatest + 1), call.applyAsLong(greatest + 1), error);
        due(what + " MIN", call.applyAsLong(MIN), error);
        due(what + " MAX", call.applyAsLong(MAX), error);
        allowed(what + " " + least, call.applyAsLong(least));
        allowed(what + " " + greatest, call.applyAsLong(greatest));
    }

    /** A call that is allowed answers no error; NONE is not one. */
    static void allowed(String call, long got) {
        asked++;
        if (got < 0 && got != NONE) {
            fail(call + " answered " + got + ", but is allowed");
        }
    }

    /** A call that is refused: a clock on which it is made tells all that one tells on which it isn't. */
    static void refused(String call, Supplier<WarmRods> clock, ToLongFunction<WarmRods> refusal, long error) {
        WarmRods touched = clock.get();
        due(call, refusal.applyAsLong(touched), error);
        same(call + " changes nothing", whole(touched), whole(clock.get()));
    }

    /** What the clock tells of itself, but for pad, slots and history. */
    static List<Long> told(WarmRods x) {
        List<Long> all = new ArrayList<>();
        for (int what = 0; what < 11; what++) {
            all.add((long) x.count(what));
        }
        for (int ago : HOURS_TOLD) {
            for (int what = 0; what < 7; what++) {
                all.add((long) x.hour(ago, what));
            }
        }
        for (int what = 0; what < 5; what++) {
            all.add((long) x.ofLog(what));
        }
        all.add(x.meanRate());
        all.add((long) x.replay());
        return all;
    }

    /** Everything, also what only shows when it is used up: the history, the pad and the slots. Some 250 calls. */
    static List<Long> whole(WarmRods x) {
        List<Long> all = new ArrayList<>(told(x));
        all.add((long) x.count(11));
        all.add((long) x.count(12));
        all.add((long) x.fault());
        for (int i = 0; i < 7; i++) {
            all.add((long) x.undo());
            shortly(x, all);
        }
        all.add((long) x.carryOut());
        shortly(x, all);
        for (int slot = 0; slot < 2; slot++) {
            all.add((long) x.restore(slot));
            shortly(x, all);
        }
        return all;
    }

    private static void shortly(WarmRods x, List<Long> all) {
        for (int what = 0; what < 13; what++) {
            all.add((long) x.count(what));
        }
        all.add((long) x.hour(0, 0));
        all.add(x.meanRate());
    }

    /** Appends a text to the pad, eight characters at a time. */
    static WarmRods write(WarmRods x, String text) {
        for (int from = 0; from < text.length(); from += 8) {
            x.put(coded(text.substring(from, Math.min(from + 8, text.length()))));
        }
        return x;
    }

    static long coded(String part) {
        long characters = 0;
        for (char c : part.toCharArray()) {
            characters = characters << 8 | c;
        }
        return characters;
    }

    /** A clock that feels neither heat nor air, so that its rate is BASE and what the weights give. */
    static WarmRods plain(int base, int limit, int... weights) {
        WarmRods x = new WarmRods();
        x.set(ROD, 0);
        x.set(AIR, 0);
        x.set(BASE, base);
        x.set(LIMIT, limit);
        for (int weight : weights) {
            x.weight(weight);
        }
        return x;
    }

    /** Lets hours go by at 20 degrees with 1000 units of air, in as few calls as it takes. */
    static WarmRods goBy(WarmRods x, int radio, int hours) {
        for (int left = hours; left > 0; left -= 99) {
            x.pass(20, 1000, radio, Math.min(99, left));
        }
        return x;
    }

    /** A clock in which nothing is as it was at first: settings, weights, drift, log, pad, slots and history. */
    static WarmRods used() {
        WarmRods x = new WarmRods();
        x.set(ROD, 7);
        x.set(AIR, 9);
        x.set(LIMIT, 60);
        x.weight(3);
        x.pass(18, 1015, 1, 30);
        x.save(0);
        x.weight(6);
        x.pass(31, 950, 1, 25);
        x.save(1);
        x.set(BASE, -3);
        x.weight(1);
        x.pass(19, 1003, 0, 1);
        x.pass(17, 1001, 0, 2);
        return write(x, "w5;h25,990r*2;b-7");
    }
}
