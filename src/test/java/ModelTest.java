import java.util.ArrayDeque;
import java.util.ArrayList;
import java.util.Arrays;
import java.util.List;
import java.util.Random;
import java.util.regex.Matcher;
import java.util.regex.Pattern;

/** Plays long rows of calls on the class and on a model that is written in another way, and compares every answer. */
public final class ModelTest {
    private static final int RUNS = 4000;
    // Short of the 512 calls of an object by more than the calls of one step.
    private static final int CALLS = 480;

    /** What the document tells, written down with the Java library, and without a thought for speed. */
    private static final class Model {
        private static final Pattern NUMBER = Pattern.compile("0|[1-9][0-9]{0,3}");
        private static final String ORDER = "(?:h-?(?:N),(?:N)r?(?:\\*(?:N))?|w[0-7]|b-?(?:N)|z)".replace("N", NUMBER.pattern());
        private static final Pattern TEXT = Pattern.compile(ORDER + "(?:;" + ORDER + ")*");
        private static final Pattern HOURS = Pattern.compile("h(-?[0-9]+),([0-9]+)(r?)(?:\\*([0-9]+))?");

        private record Hour(int heat, int air, int radio, int rate, int off, int isSet, List<Integer> weights) {}

        private record State(List<Integer> settings, List<Integer> weights, List<Hour> hours, int off, int carried,
            int timesSet) {}

        private State state = new State(List.of(12, 15, 0, 500), List.of(), List.of(), 0, 0, 0);
        private final ArrayDeque<State> history = new ArrayDeque<>();
        private final State[] slots = new State[2];
        private String pad = "";

        private void change(State next) {
            history.addLast(state);
            if (history.size() > 6) {
                history.removeFirst();
            }
            state = next;
        }

        private static boolean within(int value, int least, int greatest) {
            return least <= value && value <= greatest;
        }

        private static int setOf(List<Integer> weights) {
            return weights.stream().mapToInt(w -> (int) Math.pow(2, w)).sum();
        }

        private static int bareRate(State s, int heat, int air) {
            return s.settings.get(2) - s.settings.get(0) * (heat - 20) - (s.settings.get(1) * (air - 1000)) / 10;
        }

        private static int rateOf(State s, int heat, int air) {
            return bareRate(s, heat, air) + setOf(s.weights);
        }

        private static State withSetting(State s, int setting, int value) {
            List<Integer> settings = new ArrayList<>(s.settings);
            settings.set(setting, value);
            return new State(settings, s.weights, s.hours, s.off, s.carried, s.timesSet);
        }

        private static State withMoved(State s, int weight) {
            List<Integer> weights = new ArrayList<>(s.weights);
            if (!weights.remove((Integer) weight)) {
                weights.add(weight);
            }
            return new State(s.settings, weights, s.hours, s.off, s.carried, s.timesSet);
        }

        private static State withHour(State s, int heat, int air, int radio) {
            int rate = rateOf(s, heat, air);
            int sum = rate * 3600 + s.carried;
            int off = s.off + sum / 1000;
            int carried = sum - sum / 1000 * 1000;
            boolean isSet = radio == 1 && Math.abs(off) > s.settings.get(3);
            List<Hour> hours = new ArrayList<>(s.hours);
            hours.add(new Hour(heat, air, radio, rate, off, isSet ? 1 : 0, s.weights));
            State next = new State(s.settings, s.weights, hours, isSet ? 0 : off, isSet ? 0 : carried,
                s.timesSet + (isSet ? 1 : 0));
            for (int weight = 0; isSet && weight < 8; weight++) {
                if (s.weights.contains(weight) == (off > 0)) {
                    return withMoved(next, weight);
                }
            }
            return next;
        }

        private static int errorOfPass(State s, int heat, int air, int radio, int hours) {
            if (!within(heat, -20, 50) || !within(air, 800, 1200) || !within(radio, 0, 1) || !within(hours, 1, 99)) {
                return -2;
            }
            return s.hours.size() + hours > 9999 ? -5 : 0;
        }

        private static int errorOfSet(int setting, int value) {
            return switch (setting) {
                case 0, 1 -> within(value, 0, 99) ? 0 : -2;
                case 2 -> within(value, -500, 500) ? 0 : -2;
                case 3 -> within(value, 1, 5000) ? 0 : -2;
                default -> -2;
            };
        }

        int set(int setting, int value) {
            if (errorOfSet(setting, value) != 0) {
                return -2;
            }
            int previous = state.settings.get(setting);
            change(withSetting(state, setting, value));
            return previous + 1000;
        }

        int weight(int weight) {
            if (!within(weight, 0, 7)) {
                return -1;
            }
            change(withMoved(state, weight));
            return state.weights.contains(weight) ? 1 : 0;
        }

        int pass(int heat, int air, int radio, int hours) {
            int error = errorOfPass(state, heat, air, radio, hours);
            if (error != 0) {
                return error;
            }
            State next = state;
            for (int i = 0; i < hours; i++) {
                next = withHour(next, heat, air, radio);
            }
            int times = next.timesSet - state.timesSet;
            change(next);
            return times;
        }

        private static State zeroed(State s) {
            return new State(s.settings, s.weights, s.hours, 0, 0, s.timesSet);
        }

        int zero() {
            int off = state.off;
            change(zeroed(state));
            return off + 1000000000;
        }

        private List<Hour> log() {
            return state.hours.subList(Math.max(0, state.hours.size() - 48), state.hours.size());
        }

        int hour(int ago, int what) {
            List<Hour> log = log();
            if (ago < 0 || ago >= log.size()) {
                return -1;
            }
            Hour hour = log.get(log.size() - 1 - ago);
            return switch (what) {
                case 0 -> hour.heat + 100;
                case 1 -> hour.air;
                case 2 -> hour.radio;
                case 3 -> hour.rate + 100000;
                case 4 -> hour.off + 1000000000;
                case 5 -> hour.isSet;
                case 6 -> setOf(hour.weights);
                default -> -2;
            };
        }

        int count(int what) {
            return switch (what) {
                case 0 -> state.hours.size();
                case 1 -> state.off + 1000000000;
                case 2 -> state.carried + 1000;
                case 3 -> setOf(state.weights);
                case 4 -> state.timesSet;
                case 5 -> log().size();
                case 6 -> (int) state.hours.stream().filter(h -> h.radio == 1).count();
                case 7, 8, 9, 10 -> state.settings.get(what - 7) + 1000;
                case 11 -> pad.length();
                case 12 -> history.size();
                default -> -2;
            };
        }

        long meanRate() {
            List<Hour> log = log();
            double sum = 0;
            for (Hour hour : log) {
                sum += hour.rate;
            }
            return log.isEmpty() ? 0 : Double.doubleToLongBits(sum / log.size());
        }

        int ofLog(int what) {
            List<Hour> log = log();
            if (!within(what, 0, 4)) {
                return -2;
            }
            if (log.isEmpty()) {
                return -6;
            }
            int others = 0;
            for (int i = 1; i < log.size(); i++) {
                others += setOf(log.get(i).weights) != setOf(log.get(i - 1).weights) ? 1 : 0;
            }
            return switch (what) {
                case 0 -> log.stream().mapToInt(Hour::rate).max().getAsInt() + 100000;
                case 1 -> log.stream().mapToInt(Hour::rate).min().getAsInt() + 100000;
                case 2 -> (int) log.stream().filter(h -> h.rate > 0).count();
                case 3 -> log.stream().mapToInt(Hour::isSet).sum();
                default -> others;
            };
        }

        int rate(int heat, int air) {
            return within(heat, -20, 50) && within(air, 800, 1200) ? rateOf(state, heat, air) + 100000 : -2;
        }

        int bestWeights(int heat, int air, int what) {
            if (!within(heat, -20, 50) || !within(air, 800, 1200) || !within(what, 0, 1)) {
                return -2;
            }
            // The bare rate is a whole number, so its opposite, brought into 0 to 255, is the nearest set.
            int bare = bareRate(state, heat, air);
            int best = Math.max(0, Math.min(255, -bare));
            return what == 0 ? best : bare + best + 100000;
        }

        int offIn(int heat, int air) {
            if (!within(heat, -20, 50) || !within(air, 800, 1200)) {
                return -2;
            }
            int rate = rateOf(state, heat, air);
            long off = state.off;
            long carried = state.carried;
            int hours = 0;
            while (Math.abs(off) <= state.settings.get(3)) {
                hours++;
                if (hours > 5000) {
                    return -6;
                }
                long sum = rate * 3600L + carried;
                off += sum / 1000;
                carried = sum % 1000;
            }
            return hours;
        }

        int replay() {
            State silent = new State(state.settings, state.weights, List.of(), 0, 0, 0);
            for (Hour hour : log()) {
                silent = withHour(silent, hour.heat, hour.air, 0);
            }
            return silent.off + 1000000000;
        }

        int coolest(int air) {
            if (!within(air, 800, 1200)) {
                return -2;
            }
            int found = -6;
            for (int heat = 50; heat >= -20; heat--) {
                found = rateOf(state, heat, air) > 0 ? found : heat + 100;
            }
            return found;
        }

        int put(long characters) {
            StringBuilder text = new StringBuilder();
            boolean started = false;
            for (int i = 7; i >= 0; i--) {
                long code = (characters >>> i * 8) & 255;
                if (code == 0 && !started) {
                    continue;
                }
                started = true;
                if (code < 33 || code > 126) {
                    return -2;
                }
                text.append((char) code);
            }
            if (!started) {
                return -2;
            }
            if (pad.length() + text.length() > 80) {
                return -4;
            }
            pad += text;
            return pad.length();
        }

        int wipe() {
            int length = pad.length();
            pad = "";
            return length;
        }

        /** The first character with which the text is no beginning of a text of orders. */
        int fault() {
            if (TEXT.matcher(pad).matches()) {
                return -6;
            }
            for (int length = 1; length <= pad.length(); length++) {
                Matcher matcher = TEXT.matcher(pad.substring(0, length));
                if (!matcher.matches() && !matcher.hitEnd()) {
                    return length - 1;
                }
            }
            return pad.length();
        }

        int carryOut() {
            if (fault() != -6) {
                return -3;
            }
            State next = state;
            int carriedOut = 0;
            for (String order : pad.split(";")) {
                State then = ordered(next, order);
                if (then == null) {
                    break;
                }
                next = then;
                carriedOut++;
            }
            change(next);
            pad = "";
            return carriedOut;
        }

        private static State ordered(State s, String order) {
            if (order.equals("z")) {
                return zeroed(s);
            }
            if (order.startsWith("w")) {
                return withMoved(s, Integer.parseInt(order.substring(1)));
            }
            if (order.startsWith("b")) {
                int value = Integer.parseInt(order.substring(1));
                return errorOfSet(2, value) != 0 ? null : withSetting(s, 2, value);
            }
            Matcher m = HOURS.matcher(order);
            m.matches();
            int heat = Integer.parseInt(m.group(1));
            int air = Integer.parseInt(m.group(2));
            int radio = m.group(3).isEmpty() ? 0 : 1;
            int hours = m.group(4) == null ? 1 : Integer.parseInt(m.group(4));
            if (errorOfPass(s, heat, air, radio, hours) != 0) {
                return null;
            }
            State next = s;
            for (int i = 0; i < hours; i++) {
                next = withHour(next, heat, air, radio);
            }
            return next;
        }

        int undo() {
            if (history.isEmpty()) {
                return -5;
            }
            state = history.removeLast();
            return history.size();
        }

        int save(int slot) {
            if (!within(slot, 0, 1)) {
                return -2;
            }
            slots[slot] = state;
            return setOf(state.weights);
        }

        int restore(int slot) {
            if (!within(slot, 0, 1)) {
                return -2;
            }
            if (slots[slot] == null) {
                return -5;
            }
            change(slots[slot]);
            return setOf(state.weights);
        }
    }

    private final Random random;
    private final WarmRods real = new WarmRods();
    private final Model model = new Model();
    private final StringBuilder told = new StringBuilder();
    private int calls = 0;
    private boolean failed = false;
    private final boolean isCalm;
    private final int[] answered;

    private ModelTest(long seed, int[] answered) {
        random = new Random(seed);
        isCalm = random.nextBoolean();
        this.answered = answered;
    }

    public static void main(String[] args) {
        int wrong = 0;
        int[] answered = new int[21 * 8];
        for (int run = 0; run < RUNS && wrong < 3; run++) {
            ModelTest test = new ModelTest(run, answered);
            if (run % 300 == 0) {
                test.fillHours();
            }
            while (test.calls < CALLS && !test.failed) {
                test.step();
            }
            if (test.failed) {
                wrong++;
                System.out.println("run " + run + ":" + test.told);
            }
        }
        if (args.length > 0) {
            for (int call = 0; call < 21; call++) {
                System.out.println(call + ": " + Arrays.toString(Arrays.copyOfRange(answered, call * 8, call * 8 + 8)));
            }
        }
        System.out.println(wrong == 0 ? "the class answers as the model does" : "the class and the model differ");
        if (wrong != 0) {
            System.exit(1);
        }
    }

    private void fillHours() {
        for (int i = 0; i < 101; i++) {
            compare(2, "pass(20, 1000, 0, 98)", real.pass(20, 1000, 0, 98), model.pass(20, 1000, 0, 98));
        }
    }

    private void compare(int call, String name, long got, long want) {
        calls++;
        told.append("\n  ").append(name).append(" answered ").append(got);
        answered[call * 8 + (got >= 0 ? 0 : got >= -6 ? (int) -got : 7)]++;
        if (got != want) {
            failed = true;
            told.append(", due is ").append(want);
        }
    }

    /** Mostly from a range, at times its edges or just beyond them, seldom any number. */
    private int from(int least, int greatest) {
        int kind = random.nextInt(isCalm ? 400 : 40);
        if (kind == 0) {
            return random.nextInt();
        }
        if (kind == 1) {
            return random.nextBoolean() ? least - 1 : greatest + 1;
        }
        if (kind == 2) {
            return random.nextBoolean() ? Integer.MIN_VALUE : Integer.MAX_VALUE;
        }
        return kind < 8 ? (random.nextBoolean() ? least : greatest) : least + random.nextInt(greatest - least + 1);
    }

    private int heat() {
        return random.nextInt(3) > 0 ? 18 + random.nextInt(5) : from(-20, 50);
    }

    private int air() {
        return random.nextInt(3) > 0 ? 990 + random.nextInt(21) : from(800, 1200);
    }

    private void step() {
        int call = random.nextInt(24);
        if (call < 4) {
            stepOfChange(call);
        } else if (call < 14) {
            stepOfView(call);
        } else {
            stepOfTextOrState(call);
        }
    }

    private void stepOfChange(int call) {
        if (call == 0) {
            int setting = from(0, 3);
            int[] greatest = {99, 99, 500, random.nextBoolean() ? 50 : 5000};
            int value = setting < 0 || setting > 3 ? random.nextInt(9)
                : from(setting == 2 ? -500 : setting == 3 ? 1 : 0, greatest[setting]);
            if (setting < 2 && random.nextBoolean()) {
                value = random.nextInt(15);
            }
            compare(0, "set(" + setting + ", " + value + ")", real.set(setting, value), model.set(setting, value));
        } else if (call == 1) {
            int weight = from(0, 7);
            compare(1, "weight(" + weight + ")", real.weight(weight), model.weight(weight));
        } else if (call == 2) {
            int heat = heat();
            int air = air();
            int radio = from(0, 1);
            int hours = random.nextInt(4) > 0 ? from(1, 5) : from(1, 99);
            compare(2, "pass(" + heat + ", " + air + ", " + radio + ", " + hours + ")",
                real.pass(heat, air, radio, hours), model.pass(heat, air, radio, hours));
        } else {
            compare(3, "zero()", real.zero(), model.zero());
        }
    }

    private void stepOfView(int call) {
        int heat = heat();
        int air = air();
        String at = heat + ", " + air;
        switch (call) {
            case 4, 5 -> {
                int ago = random.nextBoolean() ? from(0, 3) : from(0, 47);
                int what = from(0, 6);
                compare(4, "hour(" + ago + ", " + what + ")", real.hour(ago, what), model.hour(ago, what));
            }
            case 6, 7 -> {
                int what = from(0, 12);
                compare(5, "count(" + what + ")", real.count(what), model.count(what));
            }
            case 8 -> compare(6, "meanRate()", real.meanRate(), model.meanRate());
            case 9 -> {
                int what = from(0, 4);
                compare(7, "ofLog(" + what + ")", real.ofLog(what), model.ofLog(what));
            }
            case 10 -> compare(8, "rate(" + at + ")", real.rate(heat, air), model.rate(heat, air));
            case 11 -> {
                int what = from(0, 1);
                compare(9, "bestWeights(" + at + ", " + what + ")", real.bestWeights(heat, air, what),
                    model.bestWeights(heat, air, what));
            }
            case 12 -> compare(10, "offIn(" + at + ")", real.offIn(heat, air), model.offIn(heat, air));
            default -> {
                compare(11, "replay()", real.replay(), model.replay());
                compare(12, "coolest(" + air + ")", real.coolest(air), model.coolest(air));
            }
        }
    }

    private void stepOfTextOrState(int call) {
        switch (call) {
            case 14, 15 -> putText();
            case 16 -> putAny();
            case 17 -> {
                if (random.nextInt(4) == 0) {
                    compare(14, "wipe()", real.wipe(), model.wipe());
                }
            }
            case 18 -> compare(15, "fault()", real.fault(), model.fault());
            case 19, 20 -> {
                compare(15, "fault()", real.fault(), model.fault());
                compare(16, "carryOut()", real.carryOut(), model.carryOut());
                if (random.nextBoolean()) {
                    compare(14, "wipe()", real.wipe(), model.wipe());
                }
            }
            case 21 -> {
                for (int times = random.nextInt(random.nextInt(8) + 1); times >= 0; times--) {
                    compare(17, "undo()", real.undo(), model.undo());
                }
            }
            case 22 -> {
                int slot = from(0, 1);
                compare(18, "save(" + slot + ")", real.save(slot), model.save(slot));
            }
            default -> {
                int slot = from(0, 1);
                compare(19, "restore(" + slot + ")", real.restore(slot), model.restore(slot));
            }
        }
    }

    private String order() {
        switch (random.nextInt(4)) {
            case 0:
                return "w" + random.nextInt(isCalm ? 8 : 9);
            case 1:
                return "b" + from(random.nextBoolean() ? -20 : -500, 500);
            case 2:
                return "z";
            default:
                return "h" + heat() + "," + air() + (random.nextBoolean() ? "r" : "")
                    + (random.nextBoolean() ? "*" + (random.nextInt(5) == 0 ? from(0, 101) : random.nextInt(9)) : "");
        }
    }

    private void putText() {
        StringBuilder text = new StringBuilder(model.count(11) > 0 ? ";" : "").append(order());
        while (random.nextInt(3) > 0) {
            text.append(';').append(order());
        }
        if (random.nextInt(4) == 0) {
            text.setCharAt(random.nextInt(text.length()), "hwbz;,-*r0123456789x".charAt(random.nextInt(20)));
        }
        if (random.nextInt(8) == 0) {
            text.setLength(random.nextInt(text.length()));
        }
        for (int from = 0; from < text.length(); from += 8) {
            long characters = 0;
            for (char c : text.substring(from, Math.min(text.length(), from + 8)).toCharArray()) {
                characters = characters << 8 | c;
            }
            compare(13, "put(" + characters + ")", real.put(characters), model.put(characters));
        }
    }

    private void putAny() {
        long characters = random.nextInt(3) == 0 ? random.nextLong() >>> random.nextInt(64) : 0;
        for (int i = random.nextInt(9); i > 0 && random.nextInt(12) > 0; i--) {
            characters = characters << 8 | "hwbz;,-*r0123456789!~\u007f \0".charAt(random.nextInt(24));
        }
        compare(13, "put(" + characters + ")", real.put(characters), model.put(characters));
    }
}
