/** A pendulum clock that is set by radio seconds. README.md tells how it is used. */
public final class WarmRods {
    public static final int NO_SUCH = -1, BAD_VALUE = -2, BAD_TEXT = -3, TOO_MANY = -4, NOT_POSSIBLE = -5, NONE = -6;
    public static final int ROD = 0, AIR = 1, BASE = 2, LIMIT = 3;

    // What the checks answer if no error applies; every error code is below it.
    private static final int FINE = 0;

    private static final int SETTINGS = 4;
    private static final int[] LEAST_VALUES = {0, 0, -500, 1};
    private static final int[] GREATEST_VALUES = {99, 99, 500, 5000};

    private static final int LEAST_HEAT = -20;
    private static final int GREATEST_HEAT = 50;
    private static final int LEAST_AIR = 800;
    private static final int GREATEST_AIR = 1200;
    private static final int GREATEST_HOURS_OF_PASS = 99;
    private static final int GREATEST_HOURS = 9999;
    private static final int GREATEST_OFF_IN = 5000;

    private static final int WEIGHTS = 8;
    private static final int ALL_WEIGHTS = 255;

    private static final int LOG_LENGTH = 48;
    private static final int OF_HEAT = 0;
    private static final int OF_AIR = 1;
    private static final int OF_RADIO = 2;
    private static final int OF_RATE = 3;
    private static final int OF_OFF = 4;
    private static final int OF_SET = 5;
    private static final int OF_TRAY = 6;
    private static final int FACTS = 7;

    // What is added to a number when it is told, so that it can't be taken for an error.
    private static final int MORE_HEAT = 100;
    private static final int MORE_RATE = 100000;
    private static final int MORE_OFF = 1000000000;
    private static final int MORE_CARRIED = 1000;
    private static final int MORE_SETTING = 1000;
    private static final int[] MORE_FACTS = {MORE_HEAT, 0, 0, MORE_RATE, MORE_OFF, 0, 0};

    private static final int PAD_LENGTH = 80;
    private static final int LEAST_SIGN = 33;
    private static final int GREATEST_SIGN = 126;
    private static final int SIGNS_OF_PUT = 8;
    private static final int DIGITS_OF_NUMBER = 4;

    private static final int HISTORY_LENGTH = 6;

    // The first of the 53 bits that a double has for its size; it is not written down in its bits.
    private static final long FIRST_BIT = 1L << 52;
    private static final int EXPONENT_OF_FIRST_BIT = 1075;

    private final Clock clock = new Clock();
    private final History history = new History();
    private final Slot firstSlot = new Slot();
    private final Slot secondSlot = new Slot();
    private final Reader reader = new Reader();
    private final Drift scratch = new Drift();

    public WarmRods() {
    }

    // ---- changes

    public int set(int setting, int value) {
        int error = clock.errorOfSetting(setting, value);
        if (error != FINE) {
            return error;
        }
        history.record(clock);
        return clock.changeSetting(setting, value) + MORE_SETTING;
    }

    public int weight(int weight) {
        int error = clock.errorOfWeight(weight);
        if (error != FINE) {
            return error;
        }
        history.record(clock);
        return clock.moveWeight(weight);
    }

    public int pass(int heat, int air, int radio, int hours) {
        int error = clock.errorOfHours(heat, air, radio, hours);
        if (error != FINE) {
            return error;
        }
        history.record(clock);
        return clock.goHours(heat, air, radio, hours);
    }

    public int zero() {
        history.record(clock);
        int off = clock.drift.off;
        clock.drift.clear();
        return off + MORE_OFF;
    }

    // ---- what there is

    public int hour(int ago, int what) {
        if (ago < 0 || ago >= clock.log.length()) {
            return NO_SUCH;
        }
        if (what < 0 || what >= MORE_FACTS.length) {
            return BAD_VALUE;
        }
        return clock.log.fact(ago, what) + MORE_FACTS[what];
    }

    public int count(int what) {
        switch (what) {
            case 0: return clock.hours;
            case 1: return clock.drift.off + MORE_OFF;
            case 2: return clock.drift.carried + MORE_CARRIED;
            case 3: return clock.tray;
            case 4: return clock.timesSet;
            case 5: return clock.log.length();
            case 6: return clock.radioHours;
            case 7: return clock.setting(ROD) + MORE_SETTING;
            case 8: return clock.setting(AIR) + MORE_SETTING;
            case 9: return clock.setting(BASE) + MORE_SETTING;
            case 10: return clock.setting(LIMIT) + MORE_SETTING;
            case 11: return reader.pad.length;
            case 12: return history.kept;
            default: return BAD_VALUE;
        }
    }

    public long meanRate() {
        int hours = clock.log.length();
        if (hours == 0) {
            return 0L;
        }
        return bitsOf((double) clock.log.sumOfRates() / (double) hours);
    }

    public int ofLog(int what) {
        if (what < 0 || what > 4) {
            return BAD_VALUE;
        }
        if (clock.log.length() == 0) {
            return NONE;
        }
        switch (what) {
            case 0: return clock.log.greatestRate() + MORE_RATE;
            case 1: return clock.log.leastRate() + MORE_RATE;
            case 2: return clock.log.countAboveZero(OF_RATE);
            case 3: return clock.log.countAboveZero(OF_SET);
            default: return clock.log.countOtherTrays();
        }
    }

    // ---- what if; nothing changes

    public int rate(int heat, int air) {
        if (!isHeat(heat) || !isAir(air)) {
            return BAD_VALUE;
        }
        return clock.rateIn(heat, air) + MORE_RATE;
    }

    public int bestWeights(int heat, int air, int what) {
        if (!isHeat(heat) || !isAir(air) || what < 0 || what > 1) {
            return BAD_VALUE;
        }
        int bare = clock.bareRateIn(heat, air);
        int best = 0;
        for (int tray = 1; tray <= ALL_WEIGHTS; tray++) {
            if (Math.abs(bare + tray) < Math.abs(bare + best)) {
                best = tray;
            }
        }
        return what == 0 ? best : bare + best + MORE_RATE;
    }

    public int offIn(int heat, int air) {
        if (!isHeat(heat) || !isAir(air)) {
            return BAD_VALUE;
        }
        int rate = clock.rateIn(heat, air);
        int limit = clock.setting(LIMIT);
        scratch.become(clock.drift);
        for (int hours = 0; hours <= GREATEST_OFF_IN; hours++) {
            if (scratch.isMoreThan(limit)) {
                return hours;
            }
            scratch.addHour(rate);
        }
        return NONE;
    }

    public int replay() {
        scratch.clear();
        for (int ago = clock.log.length() - 1; ago >= 0; ago--) {
            scratch.addHour(clock.rateIn(clock.log.fact(ago, OF_HEAT), clock.log.fact(ago, OF_AIR)));
        }
        return scratch.off + MORE_OFF;
    }

    public int coolest(int air) {
        if (!isAir(air)) {
            return BAD_VALUE;
        }
        for (int heat = LEAST_HEAT; heat <= GREATEST_HEAT; heat++) {
            if (clock.rateIn(heat, air) <= 0) {
                return heat + MORE_HEAT;
            }
        }
        return NONE;
    }

    // ---- texts

    public int put(long characters) {
        int signs = signsIn(characters);
        if (signs == 0) {
            return BAD_VALUE;
        }
        if (reader.pad.length + signs > PAD_LENGTH) {
            return TOO_MANY;
        }
        for (int sign = signs - 1; sign >= 0; sign--) {
            reader.pad.append((char) codeAt(characters, sign));
        }
        return reader.pad.length;
    }

    public int wipe() {
        int length = reader.pad.length;
        reader.pad.length = 0;
        return length;
    }

    public int fault() {
        return reader.firstFault();
    }

    public int carryOut() {
        if (reader.firstFault() != NONE) {
            return BAD_TEXT;
        }
        history.record(clock);
        int carriedOut = 0;
        reader.start();
        for (int order = 0; order < PAD_LENGTH; order++) {
            if (!reader.readOrder() || !carryOutOrder()) {
                break;
            }
            carriedOut++;
            if (!reader.readSign(';')) {
                break;
            }
        }
        reader.pad.length = 0;
        return carriedOut;
    }

    // ---- undo, saving

    public int undo() {
        if (history.kept == 0) {
            return NOT_POSSIBLE;
        }
        history.takeBack(clock);
        return history.kept;
    }

    public int save(int slot) {
        if (slot != 0 && slot != 1) {
            return BAD_VALUE;
        }
        Slot place = slot == 0 ? firstSlot : secondSlot;
        place.saved.become(clock);
        place.isFilled = true;
        return clock.tray;
    }

    public int restore(int slot) {
        if (slot != 0 && slot != 1) {
            return BAD_VALUE;
        }
        Slot place = slot == 0 ? firstSlot : secondSlot;
        if (!place.isFilled) {
            return NOT_POSSIBLE;
        }
        history.record(clock);
        clock.become(place.saved);
        return clock.tray;
    }

    // ---- the parts of the calls

    /** Carries out the order that was read last; false, and nothing is different, if it returns an error. */
    private boolean carryOutOrder() {
        switch (reader.order) {
            case 'h':
                if (clock.errorOfHours(reader.value, reader.air, reader.radio, reader.hours) != FINE) {
                    return false;
                }
                clock.goHours(reader.value, reader.air, reader.radio, reader.hours);
                return true;
            case 'w':
                if (clock.errorOfWeight(reader.value) != FINE) {
                    return false;
                }
                clock.moveWeight(reader.value);
                return true;
            case 'b':
                if (clock.errorOfSetting(BASE, reader.value) != FINE) {
                    return false;
                }
                clock.changeSetting(BASE, reader.value);
                return true;
            default:
                clock.drift.clear();
                return true;
        }
    }

    private static boolean isHeat(int heat) {
        return heat >= LEAST_HEAT && heat <= GREATEST_HEAT;
    }

    private static boolean isAir(int air) {
        return air >= LEAST_AIR && air <= GREATEST_AIR;
    }

    /** The eight bits that stand so many characters ahead of the last one. */
    private static int codeAt(long characters, int aheadOfLast) {
        return (int) (characters >>> (8 * aheadOfLast)) & 255;
    }

    /** How many characters a number tells; 0 if it tells none, or is not as put() wants it. */
    private static int signsIn(long characters) {
        for (int sign = 0; sign < SIGNS_OF_PUT; sign++) {
            int code = codeAt(characters, sign);
            if (code == 0) {
                return characters >>> (8 * sign) == 0L ? sign : 0;
            }
            if (code < LEAST_SIGN || code > GREATEST_SIGN) {
                return 0;
            }
        }
        return SIGNS_OF_PUT;
    }

    /** The bits of a mean rate, found by doubling alone: doubling keeps every bit of a double. */
    private static long bitsOf(double mean) {
        if (mean == 0.0) {
            return 0L;
        }
        double size = mean < 0.0 ? -mean : mean;
        long exponent = EXPONENT_OF_FIRST_BIT;
        // A mean rate is at least one forty-eighth, which 58 doublings bring to the first bit.
        for (int doubling = 0; doubling < 64 && size < (double) FIRST_BIT; doubling++) {
            size = size * 2.0;
            exponent--;
        }
        long sign = mean < 0.0 ? 1L << 63 : 0L;
        return sign | (exponent << 52) | ((long) size - FIRST_BIT);
    }

    // ---- the parts of the object

    /** By how many thousandths a clock is off, and what is carried to its next hour. */
    private static final class Drift {
        int off;
        int carried;

        void clear() {
            off = 0;
            carried = 0;
        }

        void become(Drift other) {
            off = other.off;
            carried = other.carried;
        }

        void addHour(int rate) {
            int gain = carried + rate * 3600;
            off += gain / 1000;
            carried = gain % 1000;
        }

        boolean isMoreThan(int limit) {
            return off > limit || off < -limit;
        }
    }

    /** The facts of the latest hours, in a row that is written round and round. */
    private static final class Log {
        private final int[] facts = new int[LOG_LENGTH * FACTS];
        private int written;

        int length() {
            return Math.min(written, LOG_LENGTH);
        }

        void become(Log other) {
            System.arraycopy(other.facts, 0, facts, 0, facts.length);
            written = other.written;
        }

        /** Begins a new latest hour; each of its facts has to be written then, over those of an hour long gone. */
        void open() {
            written++;
        }

        void write(int what, int number) {
            int place = placeOf(0, what);
            if (place >= 0 && place < facts.length) {
                facts[place] = number;
            }
        }

        int fact(int ago, int what) {
            int place = placeOf(ago, what);
            return place >= 0 && place < facts.length ? facts[place] : 0;
        }

        private int placeOf(int ago, int what) {
            return (written - 1 - ago) % LOG_LENGTH * FACTS + what;
        }

        int sumOfRates() {
            int sum = 0;
            for (int ago = 0; ago < length(); ago++) {
                sum += fact(ago, OF_RATE);
            }
            return sum;
        }

        int greatestRate() {
            int greatest = fact(0, OF_RATE);
            for (int ago = 1; ago < length(); ago++) {
                greatest = Math.max(greatest, fact(ago, OF_RATE));
            }
            return greatest;
        }

        int leastRate() {
            int least = fact(0, OF_RATE);
            for (int ago = 1; ago < length(); ago++) {
                least = Math.min(least, fact(ago, OF_RATE));
            }
            return least;
        }

        int countAboveZero(int what) {
            int found = 0;
            for (int ago = 0; ago < length(); ago++) {
                if (fact(ago, what) > 0) {
                    found++;
                }
            }
            return found;
        }

        /** How many hours have another tray than the one ahead of them. */
        int countOtherTrays() {
            int found = 0;
            for (int ago = 0; ago < length() - 1; ago++) {
                if (fact(ago, OF_TRAY) != fact(ago + 1, OF_TRAY)) {
                    found++;
                }
            }
            return found;
        }
    }

    /** All that undo() and restore() bring back. The set of weights on the tray is at once what they give. */
    private static final class Clock {
        private final int[] settings = {12, 15, 0, 500};
        private final Drift drift = new Drift();
        private final Log log = new Log();
        private int tray;
        private int hours;
        private int radioHours;
        private int timesSet;

        void become(Clock other) {
            System.arraycopy(other.settings, 0, settings, 0, settings.length);
            drift.become(other.drift);
            log.become(other.log);
            tray = other.tray;
            hours = other.hours;
            radioHours = other.radioHours;
            timesSet = other.timesSet;
        }

        int setting(int setting) {
            return setting >= 0 && setting < settings.length ? settings[setting] : 0;
        }

        int errorOfSetting(int setting, int value) {
            if (setting < 0 || setting >= SETTINGS) {
                return BAD_VALUE;
            }
            return value < LEAST_VALUES[setting] || value > GREATEST_VALUES[setting] ? BAD_VALUE : FINE;
        }

        /** Returns the previous value. */
        int changeSetting(int setting, int value) {
            int previous = setting(setting);
            if (setting >= 0 && setting < settings.length) {
                settings[setting] = value;
            }
            return previous;
        }

        int errorOfWeight(int weight) {
            return weight < 0 || weight >= WEIGHTS ? NO_SUCH : FINE;
        }

        /** Returns 1 if the weight lies on the tray then, otherwise 0. */
        int moveWeight(int weight) {
            tray ^= 1 << weight;
            return (tray >> weight) & 1;
        }

        int bareRateIn(int heat, int air) {
            return setting(BASE) - setting(ROD) * (heat - 20) - setting(AIR) * (air - 1000) / 10;
        }

        int rateIn(int heat, int air) {
            return bareRateIn(heat, air) + tray;
        }

        int errorOfHours(int heat, int air, int radio, int more) {
            if (!isHeat(heat) || !isAir(air) || radio < 0 || radio > 1) {
                return BAD_VALUE;
            }
            if (more < 1 || more > GREATEST_HOURS_OF_PASS) {
                return BAD_VALUE;
            }
            return hours + more > GREATEST_HOURS ? NOT_POSSIBLE : FINE;
        }

        /** Returns how often the clock is set in the hours. */
        int goHours(int heat, int air, int radio, int more) {
            int before = timesSet;
            for (int hour = 0; hour < more; hour++) {
                goHour(heat, air, radio);
            }
            return timesSet - before;
        }

        private void goHour(int heat, int air, int radio) {
            int rate = rateIn(heat, air);
            drift.addHour(rate);
            boolean isSet = radio == 1 && drift.isMoreThan(setting(LIMIT));
            log.open();
            log.write(OF_HEAT, heat);
            log.write(OF_AIR, air);
            log.write(OF_RADIO, radio);
            log.write(OF_RATE, rate);
            log.write(OF_OFF, drift.off);
            log.write(OF_SET, isSet ? 1 : 0);
            log.write(OF_TRAY, tray);
            hours++;
            radioHours += radio;
            if (isSet) {
                correct();
            }
        }

        /** Sets the clock by the radio, and moves a weight by rule. */
        private void correct() {
            if (drift.off > 0) {
                tray &= tray - 1; // takes away the lowest bit, the lightest weight
            } else {
                tray = (tray | (tray + 1)) & ALL_WEIGHTS; // fills the lowest bit that is free, if one is
            }
            drift.clear();
            timesSet++;
        }
    }

    /** The states before the latest changes, the newest one first. */
    private static final class History {
        private final Clock[] states = new Clock[HISTORY_LENGTH];
        private int kept;

        History() {
            for (int i = 0; i < states.length; i++) {
                states[i] = new Clock();
            }
        }

        /** The state that falls off at the far end is written anew, so that no call makes an object. */
        void record(Clock clock) {
            Clock newest = states[HISTORY_LENGTH - 1];
            for (int i = states.length - 1; i > 0; i--) {
                states[i] = states[i - 1];
            }
            states[0] = newest;
            newest.become(clock);
            kept = Math.min(kept + 1, HISTORY_LENGTH);
        }

        void takeBack(Clock clock) {
            Clock newest = states[0];
            clock.become(newest);
            for (int i = 0; i < states.length - 1; i++) {
                states[i] = states[i + 1];
            }
            states[HISTORY_LENGTH - 1] = newest;
            kept--;
        }
    }

    /** What save() has kept. */
    private static final class Slot {
        private final Clock saved = new Clock();
        private boolean isFilled;
    }

    /** The text of the orders. */
    private static final class Pad {
        private final char[] signs = new char[PAD_LENGTH];
        private int length;

        void append(char sign) {
            if (length >= 0 && length < signs.length) {
                signs[length] = sign;
                length++;
            }
        }

        /** The character at a place, 0 behind the last one. */
        int signAt(int place) {
            return place >= 0 && place < length && place < signs.length ? signs[place] : 0;
        }
    }

    /**
     * Reads a pad order by order, and stands still at the first character that cannot stand at its place.
     * The grammar never needs to look further ahead than one character, so that place is the fault.
     */
    private static final class Reader {
        private final Pad pad = new Pad();
        private int place;
        private int number;
        // The order that was read last: its letter, and what stands behind it.
        private int order;
        private int value;
        private int air;
        private int radio;
        private int hours;

        void start() {
            place = 0;
        }

        /** The index of the fault, NONE if there is none. */
        int firstFault() {
            start();
            for (int orders = 0; orders < PAD_LENGTH; orders++) {
                if (!readOrder()) {
                    return place;
                }
                if (place == pad.length) {
                    return NONE;
                }
                if (!readSign(';')) {
                    return place;
                }
            }
            return place;
        }

        boolean readOrder() {
            order = pad.signAt(place);
            switch (order) {
                case 'h':
                    place++;
                    return readHours();
                case 'w':
                    place++;
                    return readWeight();
                case 'b':
                    place++;
                    return readValue();
                case 'z':
                    place++;
                    return true;
                default:
                    return false;
            }
        }

        boolean readSign(char sign) {
            if (pad.signAt(place) != sign) {
                return false;
            }
            place++;
            return true;
        }

        private boolean readHours() {
            if (!readValue() || !readSign(',') || !readNumber()) {
                return false;
            }
            air = number;
            radio = readSign('r') ? 1 : 0;
            hours = 1;
            if (!readSign('*')) {
                return true;
            }
            if (!readNumber()) {
                return false;
            }
            hours = number;
            return true;
        }

        private boolean readWeight() {
            int digit = pad.signAt(place) - '0';
            if (digit < 0 || digit >= WEIGHTS) {
                return false;
            }
            value = digit;
            place++;
            return true;
        }

        private boolean readValue() {
            boolean isBelowZero = readSign('-');
            if (!readNumber()) {
                return false;
            }
            value = isBelowZero ? -number : number;
            return true;
        }

        /** Ends ahead of a digit that can't belong to the number; whatever is read next then refuses it. */
        private boolean readNumber() {
            int digits = 0;
            number = 0;
            while (digits < DIGITS_OF_NUMBER && isDigit(pad.signAt(place)) && (digits == 0 || number > 0)) {
                number = number * 10 + pad.signAt(place) - '0';
                digits++;
                place++;
            }
            return digits > 0;
        }

        private static boolean isDigit(int sign) {
            return sign >= '0' && sign <= '9';
        }
    }
}
