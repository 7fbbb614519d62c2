/** The sentences of promises 6 to 9: what there is. */
public final class EdgesOfWhatThereIs extends Edges {
    public static void main(String[] args) {
        runAll(EdgesOfWhatThereIs.class);
    }

    /** A clock by whose log as many hours have gone, each of them one millionth faster than the one ahead of it. */
    private static WarmRods faster(int firstBase, int hours) {
        WarmRods x = plain(firstBase, 5000);
        for (int i = 0; i < hours; i++) {
            x.set(BASE, firstBase + i);
            x.pass(20, 1000, 0, 1);
        }
        return x;
    }

    private static WarmRods hoursOf(int... rates) {
        WarmRods x = plain(0, 5000);
        for (int rate : rates) {
            x.set(BASE, rate);
            x.pass(20, 1000, 0, 1);
        }
        return x;
    }

    private static long meanOf(int sum, int hours) {
        return Double.doubleToLongBits((double) sum / (double) hours);
    }

    @Says(where = "Ahead of the calls", words = "Ahead of the calls `hour`, `count`, `meanRate`, `ofLog` the interface says: ---- "
        + "what there is.")
    static void nothingChangesByAsking() {
        WarmRods asked = used();
        for (int what = 0; what < 13; what++) {
            asked.count(what);
            asked.hour(0, what);
            asked.hour(47, what);
            asked.ofLog(what);
        }
        asked.meanRate();
        same("behind all of them", whole(asked), whole(used()));
    }

    // ---- promise 6

    @Says(where = "Promise 6", words = "`ago`: 0 for the latest one")
    static void latestHour() {
        WarmRods x = faster(1, 3);
        due("hour(0, 3)", x.hour(0, 3), NO_RATE + 3);
        due("hour(1, 3)", x.hour(1, 3), NO_RATE + 2);
        due("hour(2, 3)", x.hour(2, 3), NO_RATE + 1);
    }

    @Says(where = "Promise 6", words = "NO_SUCH if there is no such hour")
    static void noSuchHour() {
        due("an empty log", new WarmRods().hour(0, 0), NO_SUCH);
        due("-1 of an empty log", new WarmRods().hour(-1, 0), NO_SUCH);
        for (int hours : new int[] {1, 2, 47, 48}) {
            range("ago, of " + hours, 0, hours - 1, NO_SUCH, ago -> goBy(new WarmRods(), 0, hours).hour(ago, 0));
        }
        range("ago, of 49", 0, 47, NO_SUCH, ago -> goBy(new WarmRods(), 0, 49).hour(ago, 0));
        range("ago, of all", 0, 47, NO_SUCH, ago -> goBy(new WarmRods(), 0, ALL_HOURS).hour(ago, 0));
    }

    @Says(where = "Promise 6", words = "BAD_VALUE if what is out of range")
    static void whatOfHour() {
        range("what", 0, 6, BAD_VALUE, what -> goBy(new WarmRods(), 0, 1).hour(0, what));
        range("what, of the oldest one", 0, 6, BAD_VALUE, what -> goBy(new WarmRods(), 0, 99).hour(47, what));
    }

    @Says(where = "Promise 6", words = "NO_SUCH if there is no such hour; BAD_VALUE if what is out of range.")
    static void noSuchHourFirst() {
        WarmRods x = goBy(new WarmRods(), 0, 48);
        due("hour(48, 7)", x.hour(48, 7), NO_SUCH);
        due("hour(48, -1)", x.hour(48, -1), NO_SUCH);
        due("hour(-1, 7)", x.hour(-1, 7), NO_SUCH);
        due("hour(MIN, MIN)", x.hour(MIN, MIN), NO_SUCH);
        due("hour(MAX, MAX)", x.hour(MAX, MAX), NO_SUCH);
        due("hour(0, 7), of an empty log", new WarmRods().hour(0, 7), NO_SUCH);
        due("hour(47, 7)", x.hour(47, 7), BAD_VALUE);
    }

    @Says(where = "Promise 6", words = "Returns something about an hour of the log.")
    @Says(where = "Promise 6", words = "Returns the number")
    static void allOfTwoHours() {
        WarmRods x = plain(5, 20, 1);
        x.set(ROD, 2);
        x.set(AIR, 3);
        x.pass(19, 1010, 0, 1); // 5 + 2 - 3 + 2
        x.pass(21, 980, 1, 1); // 5 - 2 + 6 + 2
        long[] older = {119, 1010, 0, NO_RATE + 6, RIGHT + 21, 0, 2};
        long[] latest = {121, 980, 1, NO_RATE + 11, RIGHT + 61, 1, 2}; // 600 and 39600
        for (int what = 0; what < 7; what++) {
            due("hour(1, " + what + ")", x.hour(1, what), older[what]);
            due("hour(0, " + what + ")", x.hour(0, what), latest[what]);
        }
    }

    @Says(where = "Promise 6", words = "`what`: 0 its heat and 100")
    static void heatOfHour() {
        for (int heat : new int[] {-20, -1, 0, 50}) {
            WarmRods x = new WarmRods();
            x.pass(heat, 1000, 0, 1);
            due("heat " + heat, x.hour(0, 0), heat + 100);
        }
    }

    @Says(where = "Promise 6", words = "1 its air")
    static void airOfHour() {
        for (int air : new int[] {800, 1000, 1200}) {
            WarmRods x = new WarmRods();
            x.pass(20, air, 0, 1);
            due("air " + air, x.hour(0, 1), air);
        }
    }

    @Says(where = "Promise 6", words = "2 whether the radio told seconds")
    static void radioOfHour() {
        due("with", goBy(new WarmRods(), 1, 1).hour(0, 2), 1);
        due("without", goBy(new WarmRods(), 0, 1).hour(0, 2), 0);
    }

    @Says(where = "Promise 6", words = "3 its rate and 100000")
    static void rateOfHour() {
        WarmRods x = plain(-500, 5000);
        x.set(ROD, 99);
        x.set(AIR, 99);
        x.pass(50, 1200, 0, 1);
        due("the least", x.hour(0, 3), NO_RATE - 5450);
        x.set(BASE, 500);
        for (int weight = 0; weight < 8; weight++) {
            x.weight(weight);
        }
        x.pass(-20, 800, 0, 1);
        due("the greatest", x.hour(0, 3), NO_RATE + 6695);
        due("0", hoursOf(0).hour(0, 3), NO_RATE);
        x.set(BASE, 0);
        due("of then, not of now", x.hour(0, 3), NO_RATE + 6695);
    }

    @Says(where = "Promise 6", words = "4 by how much the clock was off behind it, ahead of being set, and 1000000000")
    static void offOfHour() {
        WarmRods fast = plain(1, 2);
        fast.pass(20, 1000, 1, 1);
        due("fast, and set", fast.hour(0, 4), RIGHT + 3);
        WarmRods slow = plain(-1, 2);
        slow.pass(20, 1000, 1, 1);
        due("slow, and set", slow.hour(0, 4), RIGHT - 3);
        WarmRods still = plain(1, 3);
        still.pass(20, 1000, 1, 1);
        due("not set", still.hour(0, 4), RIGHT + 3);
        still.zero();
        due("zero() is told by no hour", still.hour(0, 4), RIGHT + 3);
        due("not off", hoursOf(0).hour(0, 4), RIGHT);
    }

    @Says(where = "Promise 6", words = "5 whether it was set (1 or 0)")
    static void setOfHour() {
        WarmRods x = plain(1, 3);
        x.pass(20, 1000, 1, 2);
        due("off by 7, LIMIT 3", x.hour(0, 5), 1);
        due("off by 3, LIMIT 3", x.hour(1, 5), 0);
        x.pass(20, 1000, 0, 3);
        due("off by 10, LIMIT 3, without the radio", x.hour(0, 5), 0);
    }

    @Says(where = "Promise 6", words = "6 the weights on the tray in it, as a set")
    static void weightsOfHour() {
        due("none", hoursOf(0).hour(0, 6), 0);
        WarmRods full = plain(500, 1, 0, 1, 2, 3, 4, 5, 6, 7);
        full.pass(20, 1000, 1, 2);
        due("all, in the hour behind which one is taken", full.hour(1, 6), 255);
        due("all but 0, in the next one", full.hour(0, 6), 254);
        WarmRods slow = plain(-500, 1);
        slow.pass(20, 1000, 1, 2);
        due("none, in the hour behind which one is laid", slow.hour(1, 6), 0);
        due("0, in the next one", slow.hour(0, 6), 1);
        slow.weight(7);
        due("of then, not of now", slow.hour(0, 6), 1);
    }

    // ---- promise 7

    @Says(where = "Promise 7", words = "BAD_VALUE if what is out of range")
    static void whatOfCount() {
        range("what", 0, 12, BAD_VALUE, what -> new WarmRods().count(what));
        range("what, of a used clock", 0, 12, BAD_VALUE, what -> used().count(what));
    }

    @Says(where = "Promise 7", words = "Returns a number.")
    @Says(where = "Promise 7", words = "Returns the number")
    static void allNumbers() {
        WarmRods x = new WarmRods();
        x.set(ROD, 1);
        x.set(AIR, 2);
        x.set(BASE, 3);
        x.set(LIMIT, 4);
        x.weight(5);
        x.pass(20, 1000, 1, 1); // 35: set, and 5 is taken
        x.pass(20, 1000, 0, 60); // 3
        x.pass(19, 1000, 0, 1); // 4
        write(x, "z;w");
        long[] due = {62, RIGHT + 662, 1400, 0, 1, 48, 1, 1001, 1002, 1003, 1004, 3, 6};
        for (int what = 0; what < 13; what++) {
            due("count(" + what + ")", x.count(what), due[what]);
        }
    }

    @Says(where = "Promise 7", words = "`what`: 0 hours so far")
    static void hoursSoFar() {
        due("none", new WarmRods().count(0), 0);
        due("one", goBy(new WarmRods(), 0, 1).count(0), 1);
        due("more than the log has", goBy(new WarmRods(), 0, 49).count(0), 49);
        due("all", goBy(new WarmRods(), 1, ALL_HOURS).count(0), ALL_HOURS);
    }

    @Says(where = "Promise 7", words = "1 by how much the clock is off, and 1000000000")
    static void offNow() {
        due("0", hoursOf(0).count(1), RIGHT);
        due("fast", hoursOf(1).count(1), RIGHT + 3);
        due("slow", hoursOf(-1).count(1), RIGHT - 3);
    }

    @Says(where = "Promise 7", words = "2 what is carried, and 1000")
    static void carriedNow() {
        due("nothing", hoursOf(0).count(2), 1000);
        due("the most", hoursOf(3).count(2), 1800);
        due("the least", hoursOf(-3).count(2), 200);
        due("1000 is not left", hoursOf(5).count(2), 1000);
        due("-1000 is not left", hoursOf(-5).count(2), 1000);
    }

    @Says(where = "Promise 7", words = "3 the weights on the tray, as a set")
    static void trayNow() {
        due("none", plain(0, 1).count(3), 0);
        due("0", plain(0, 1, 0).count(3), 1);
        due("7", plain(0, 1, 7).count(3), 128);
        due("all", plain(0, 1, 0, 1, 2, 3, 4, 5, 6, 7).count(3), 255);
    }

    @Says(where = "Promise 7", words = "4 how often it was set by the radio so far")
    static void timesSet() {
        WarmRods x = plain(500, 1);
        due("never", x.count(4), 0);
        x.pass(20, 1000, 1, 1);
        due("once", x.count(4), 1);
        x.pass(20, 1000, 0, 1);
        x.zero();
        due("zero() is not the radio", x.count(4), 1);
        goBy(x, 1, ALL_HOURS - 2);
        due("all but one of all hours", x.count(4), ALL_HOURS - 1);
    }

    @Says(where = "Promise 7", words = "5 hours in the log")
    static void hoursInTheLog() {
        for (int hours : new int[] {0, 1, 47, 48}) {
            due("of " + hours, goBy(new WarmRods(), 0, hours).count(5), hours);
        }
        due("of 49", goBy(new WarmRods(), 0, 49).count(5), 48);
        due("of all", goBy(new WarmRods(), 0, ALL_HOURS).count(5), 48);
    }

    @Says(where = "Promise 7", words = "6 hours with the radio so far")
    static void radioHours() {
        WarmRods x = new WarmRods();
        due("none", x.count(6), 0);
        due("not those without", goBy(x, 0, 99).count(6), 0);
        due("one", goBy(x, 1, 1).count(6), 1);
        due("more than the log has", goBy(x, 1, 99).count(6), 100);
        due("all", goBy(new WarmRods(), 1, ALL_HOURS).count(6), ALL_HOURS);
    }

    @Says(where = "Promise 7", words = "7 to 10 the settings, and 1000 more")
    static void settingsNow() {
        int[] least = {0, 0, -500, 1};
        int[] greatest = {99, 99, 500, 5000};
        for (int setting = ROD; setting <= LIMIT; setting++) {
            WarmRods x = new WarmRods();
            x.set(setting, least[setting]);
            due("least of " + setting, x.count(7 + setting), least[setting] + 1000);
            x.set(setting, greatest[setting]);
            due("greatest of " + setting, x.count(7 + setting), greatest[setting] + 1000);
        }
    }

    @Says(where = "Promise 7", words = "11 the length of the pad")
    static void lengthOfThePad() {
        WarmRods x = new WarmRods();
        due("empty", x.count(11), 0);
        due("one", write(x, "z").count(11), 1);
        due("79", write(x, "y".repeat(78)).count(11), 79);
        due("80", write(x, "x").count(11), 80);
        due("81", write(x, "w").count(11), 80);
        x.wipe();
        due("empty again", x.count(11), 0);
    }

    @Says(where = "Promise 7", words = "12 how many changes can be undone")
    static void changesToUndo() {
        WarmRods x = new WarmRods();
        due("none", x.count(12), 0);
        for (int changes = 1; changes <= 6; changes++) {
            x.zero();
            due(changes + " of them", x.count(12), changes);
        }
        x.zero();
        due("6 of 7", x.count(12), 6);
        for (int left = 5; left >= 0; left--) {
            x.undo();
            due(left + " left", x.count(12), left);
        }
        x.undo();
        due("none left", x.count(12), 0);
    }

    // ---- promise 8

    @Says(where = "Promise 8", words = "Returns the bits (0 without hours).")
    static void withoutHours() {
        due("a new clock", new WarmRods().meanRate(), 0L);
        WarmRods x = hoursOf(5);
        due("an hour", x.meanRate(), meanOf(5, 1));
        x.undo();
        due("the hour undone", x.meanRate(), 0L);
    }

    @Says(where = "Promise 8", words = "the bits, as Double.doubleToLongBits tells them, of the sum of their rates, as a double, divided "
        + "by how many they are, as a double")
    static void meanOfRates() {
        due("of 1", hoursOf(1).meanRate(), 0x3FF0000000000000L);
        due("of -1", hoursOf(-1).meanRate(), 0xBFF0000000000000L);
        due("of 0", hoursOf(0).meanRate(), 0L);
        due("of 1 and -1", hoursOf(1, -1).meanRate(), 0L);
        due("of -1 and 1", hoursOf(-1, 1).meanRate(), 0L);
        due("of 0, 0, 1", hoursOf(0, 0, 1).meanRate(), meanOf(1, 3));
        due("of 0, 0, -1", hoursOf(0, 0, -1).meanRate(), meanOf(-1, 3));
        due("of 1, 2", hoursOf(1, 2).meanRate(), meanOf(3, 2));
    }

    @Says(where = "Promise 8", words = "Returns the mean rate of the hours of the log")
    static void meanOfFullLog() {
        WarmRods x = hoursOf(48);
        goBy(set(x, 0), 0, 46);
        due("47 hours", x.meanRate(), meanOf(48, 47));
        goBy(x, 0, 1);
        due("48 hours", x.meanRate(), meanOf(48, 48));
        goBy(set(x, 1), 0, 1);
        due("49 hours: the oldest one is gone", x.meanRate(), meanOf(1, 48));
        goBy(set(x, -1), 0, 2);
        due("51 hours", x.meanRate(), meanOf(-1, 48));
    }

    private static WarmRods set(WarmRods x, int base) {
        x.set(BASE, base);
        return x;
    }

    @Says(where = "Promise 8", words = "Returns the mean rate of the hours of the log")
    static void farthestMeans() {
        WarmRods x = plain(-500, 5000);
        x.set(ROD, 99);
        x.set(AIR, 99);
        x.pass(50, 1200, 0, 99);
        due("the least", x.meanRate(), meanOf(-5450, 1));
        x.set(BASE, 500);
        for (int weight = 0; weight < 8; weight++) {
            x.weight(weight);
        }
        x.pass(-20, 800, 0, 47);
        due("47 of the greatest, one of the least", x.meanRate(), meanOf(6695 * 47 - 5450, 48));
        x.pass(-20, 800, 0, 1);
        due("the greatest", x.meanRate(), meanOf(6695, 1));
    }

    // ---- promise 9

    @Says(where = "Promise 9", words = "BAD_VALUE if what is out of range; NONE without hours.")
    static void badValueFirst() {
        range("what, without hours", 0, 4, BAD_VALUE, what -> new WarmRods().ofLog(what));
        range("what, of an hour", 0, 4, BAD_VALUE, what -> hoursOf(0).ofLog(what));
        range("what, of a used clock", 0, 4, BAD_VALUE, what -> used().ofLog(what));
    }

    @Says(where = "Promise 9", words = "NONE without hours")
    static void ofLogWithoutHours() {
        for (int what = 0; what < 5; what++) {
            due("ofLog(" + what + ")", new WarmRods().ofLog(what), NONE);
            WarmRods x = hoursOf(0);
            due("ofLog(" + what + ") of one hour", x.ofLog(what), what < 2 ? NO_RATE : 0);
            x.undo();
            due("ofLog(" + what + "), the hour undone", x.ofLog(what), NONE);
        }
    }

    @Says(where = "Promise 9", words = "Returns something about the hours of the log.")
    @Says(where = "Promise 9", words = "Returns the number")
    static void allOfALog() {
        WarmRods x = plain(0, 20);
        x.set(ROD, 1);
        x.pass(14, 1000, 1, 1); // 6: off by 21, set, and 0 to 7 are all off the tray
        x.pass(23, 1000, 1, 1); // -3: off by -10
        x.pass(24, 1000, 1, 2); // -4: off by -25, set, and 0 is laid; then -3
        x.pass(19, 1000, 0, 1); // 2
        long[] due = {NO_RATE + 6, NO_RATE - 4, 2, 2, 1};
        for (int what = 0; what < 5; what++) {
            due("ofLog(" + what + ")", x.ofLog(what), due[what]);
        }
    }

    @Says(where = "Promise 9", words = "`what`: 0 the greatest rate and 100000")
    static void greatestRate() {
        due("all slow, the first", hoursOf(-1, -2, -3).ofLog(0), NO_RATE - 1);
        due("all slow, the last", hoursOf(-3, -2, -1).ofLog(0), NO_RATE - 1);
        due("in the middle", hoursOf(1, 7, 3).ofLog(0), NO_RATE + 7);
        due("all alike", hoursOf(4, 4).ofLog(0), NO_RATE + 4);
        WarmRods x = goBy(set(hoursOf(9, 8), 1), 0, 46);
        due("the oldest of 48", x.ofLog(0), NO_RATE + 9);
        due("gone behind the 49th", goBy(x, 0, 1).ofLog(0), NO_RATE + 8);
        due("gone behind the 50th", goBy(x, 0, 1).ofLog(0), NO_RATE + 1);
    }

    @Says(where = "Promise 9", words = "1 the least rate and 100000")
    static void leastRate() {
        due("all fast, the first", hoursOf(1, 2, 3).ofLog(1), NO_RATE + 1);
        due("all fast, the last", hoursOf(3, 2, 1).ofLog(1), NO_RATE + 1);
        due("in the middle", hoursOf(-1, -7, -3).ofLog(1), NO_RATE - 7);
        due("all alike", hoursOf(-4, -4).ofLog(1), NO_RATE - 4);
        WarmRods x = goBy(set(hoursOf(-9, -8), -1), 0, 46);
        due("the oldest of 48", x.ofLog(1), NO_RATE - 9);
        due("gone behind the 49th", goBy(x, 0, 1).ofLog(1), NO_RATE - 8);
        due("gone behind the 50th", goBy(x, 0, 1).ofLog(1), NO_RATE - 1);
    }

    @Says(where = "Promise 9", words = "2 hours in which the clock was fast (its rate above 0)")
    static void fastHours() {
        due("0 is not above 0", hoursOf(0).ofLog(2), 0);
        due("1 is", hoursOf(1).ofLog(2), 1);
        due("-1 is not", hoursOf(-1).ofLog(2), 0);
        due("the rate counts, not what the clock is off by", hoursOf(-500, 1).ofLog(2), 1);
        due("nor here", hoursOf(500, -1).ofLog(2), 1);
        WarmRods x = goBy(set(hoursOf(1), 1), 0, 47);
        due("all of 48", x.ofLog(2), 48);
        due("all of 49", goBy(x, 0, 1).ofLog(2), 48);
        due("all but one", goBy(set(x, 0), 0, 1).ofLog(2), 47);
        due("none of the latest 48", goBy(x, 0, 47).ofLog(2), 0);
    }

    @Says(where = "Promise 9", words = "3 hours in which it was set")
    static void setHours() {
        WarmRods x = plain(500, 1);
        x.pass(20, 1000, 1, 48);
        due("all of 48", x.ofLog(3), 48);
        x.pass(20, 1000, 1, 1);
        due("all of 49", x.ofLog(3), 48);
        x.pass(20, 1000, 0, 1);
        due("all but one", x.ofLog(3), 47);
        x.zero();
        due("zero() sets no hour", x.ofLog(3), 47);
        x.pass(20, 1000, 0, 47);
        due("none of the latest 48", x.ofLog(3), 0);
        due("so far", x.count(4), 49);
        WarmRods y = plain(1, 3);
        y.pass(20, 1000, 1, 1);
        due("off by the limit", y.ofLog(3), 0);
        y.pass(20, 1000, 1, 1);
        due("off by more", y.ofLog(3), 1);
    }

    @Says(where = "Promise 9", words = "4 how many hours have another set of weights than the one ahead of them in the log")
    static void otherWeights() {
        WarmRods x = plain(0, 5000, 3);
        x.pass(20, 1000, 0, 1);
        due("one hour: there is none ahead of it", x.ofLog(4), 0);
        x.pass(20, 1000, 0, 1);
        due("the same set", x.ofLog(4), 0);
        x.weight(3);
        due("the set of now is no hour's", x.ofLog(4), 0);
        x.pass(20, 1000, 0, 1);
        due("another set", x.ofLog(4), 1);
        x.weight(3);
        x.pass(20, 1000, 0, 1);
        due("the first set again", x.ofLog(4), 2);
        x.weight(0);
        x.weight(0);
        x.pass(20, 1000, 0, 1);
        due("laid and taken", x.ofLog(4), 2);
    }

    @Says(where = "Promise 9", words = "than the one ahead of them in the log")
    static void otherWeightsInFullLog() {
        WarmRods x = plain(0, 5000);
        for (int i = 0; i < 48; i++) {
            x.weight(0);
            x.pass(20, 1000, 0, 1);
        }
        due("all but the oldest one of 48", x.ofLog(4), 47);
        x.weight(0);
        x.pass(20, 1000, 0, 1);
        due("the one ahead of the oldest one is not in the log", x.ofLog(4), 47);
        x.pass(20, 1000, 0, 1);
        due("one of the same set", x.ofLog(4), 46);
        x.pass(20, 1000, 0, 46);
        due("only the oldest one has another set", x.ofLog(4), 0);
        x.weight(5);
        x.pass(20, 1000, 0, 1);
        due("only the latest one has another set", x.ofLog(4), 1);
        x.pass(20, 1000, 0, 46);
        due("the second oldest one has another set", x.ofLog(4), 1);
        x.pass(20, 1000, 0, 1);
        due("the oldest one has none ahead of it", x.ofLog(4), 0);
    }
}
