/** The sentences of promises 1 to 5: a new object, and the changes. */
public final class EdgesOfChanges extends Edges {
    public static void main(String[] args) {
        runAll(EdgesOfChanges.class);
    }

    /** A clock by which that many hours of 20 degrees have gone. */
    private static WarmRods behind(int hours) {
        return goBy(new WarmRods(), 0, hours);
    }

    @Says(where = "Ahead of the calls", words = "Ahead of the calls `set`, `weight`, `pass`, `zero` the interface says: ---- changes.")
    static void changes() {
        WarmRods x = new WarmRods();
        x.set(BASE, 5);
        due("behind set", x.count(12), 1);
        x.weight(2);
        due("behind weight", x.count(12), 2);
        x.pass(20, 1000, 0, 5);
        due("behind pass", x.count(12), 3);
        x.zero();
        due("behind zero", x.count(12), 4);
        due("off", x.count(1), RIGHT);
        x.undo();
        due("off, without zero", x.count(1), RIGHT + 162); // 9 * 5 * 3.6
        x.undo();
        due("hours, without pass", x.count(0), 0);
        x.undo();
        due("tray, without weight", x.count(3), 0);
        x.undo();
        due("BASE, without set", x.count(9), 1000);
    }

    // ---- promise 1

    @Says(where = "Promise 1", words = "Creates a clock that is right, without weights.")
    static void rightWithoutWeights() {
        WarmRods x = new WarmRods();
        due("off by", x.count(1), RIGHT);
        due("carried", x.count(2), 1000);
        due("weights", x.count(3), 0);
        due("its rate", x.rate(20, 1000), NO_RATE);
        due("zero()", x.zero(), RIGHT);
    }

    @Says(where = "Promise 1", words = "Creates a clock")
    static void nothingHasHappened() {
        WarmRods x = new WarmRods();
        due("hours", x.count(0), 0);
        due("times set", x.count(4), 0);
        due("hours in the log", x.count(5), 0);
        due("hours with the radio", x.count(6), 0);
        due("length of the pad", x.count(11), 0);
        due("changes", x.count(12), 0);
        due("latest hour", x.hour(0, 0), NO_SUCH);
        due("mean rate", x.meanRate(), 0L);
        due("of the log", x.ofLog(2), NONE);
        due("replay()", x.replay(), RIGHT);
        due("offIn()", x.offIn(20, 1000), NONE);
        due("fault()", x.fault(), 0);
        due("carryOut()", x.carryOut(), BAD_TEXT);
        due("undo()", x.undo(), NOT_POSSIBLE);
        due("restore(0)", x.restore(0), NOT_POSSIBLE);
        due("restore(1)", x.restore(1), NOT_POSSIBLE);
        due("wipe()", x.wipe(), 0);
    }

    @Says(where = "Promise 1", words = "Creates a clock")
    static void eachObjectIsItsOwn() {
        WarmRods first = used();
        same("an object made after another one was used", whole(new WarmRods()), whole(new WarmRods()));
        WarmRods untouched = new WarmRods();
        goBy(first, 1, 99);
        due("hours of another one", untouched.count(0), 0);
        due("weights of another one", untouched.count(3), 0);
        due("settings of another one", untouched.count(7), 1012);
        due("pad of another one", untouched.count(11), 0);
        due("history of another one", untouched.count(12), 0);
        due("slots of another one", untouched.restore(0), NOT_POSSIBLE);
    }

    // ---- promise 2

    @Says(where = "Promise 2", words = "BAD_VALUE if there is no such setting")
    static void settings() {
        range("set", ROD, LIMIT, BAD_VALUE, setting -> new WarmRods().set(setting, 1));
    }

    @Says(where = "Promise 2", words = "or the value is out of its range")
    static void valuesOfEachSetting() {
        int[] least = {0, 0, -500, 1};
        int[] greatest = {99, 99, 500, 5000};
        for (int setting = ROD; setting <= LIMIT; setting++) {
            int which = setting;
            range("set(" + which + ")", least[which], greatest[which], BAD_VALUE, value -> new WarmRods().set(which, value));
        }
    }

    @Says(where = "Promise 2", words = "BAD_VALUE if there is no such setting, or the value is out of its range.")
    static void settingAndValue() {
        due("set(4, 5001)", new WarmRods().set(4, 5001), BAD_VALUE);
        due("set(-1, -501)", new WarmRods().set(-1, -501), BAD_VALUE);
        due("set(MIN, MIN)", new WarmRods().set(MIN, MIN), BAD_VALUE);
        due("set(MAX, MAX)", new WarmRods().set(MAX, MAX), BAD_VALUE);
    }

    @Says(where = "Promise 2", words = "Returns the previous value, and 1000 more")
    static void previousValue() {
        int[] first = {12, 15, 0, 500};
        int[] least = {0, 0, -500, 1};
        int[] greatest = {99, 99, 500, 5000};
        for (int setting = ROD; setting <= LIMIT; setting++) {
            WarmRods x = new WarmRods();
            due("the first of " + setting, x.set(setting, least[setting]), first[setting] + 1000);
            due("the least of " + setting, x.set(setting, greatest[setting]), least[setting] + 1000);
            due("the greatest of " + setting, x.set(setting, greatest[setting]), greatest[setting] + 1000);
        }
    }

    @Says(where = "Promise 2", words = "Changes a setting. This is a change.")
    static void setIsAChange() {
        for (int setting = ROD; setting <= LIMIT; setting++) {
            WarmRods x = new WarmRods();
            int first = x.count(7 + setting);
            x.set(setting, 20);
            due("recorded", x.count(12), 1);
            for (int other = ROD; other <= LIMIT; other++) {
                due("setting " + other + " behind " + setting, x.count(7 + other),
                    other == setting ? 1020 : new WarmRods().count(7 + other));
            }
            x.set(setting, 20);
            due("recorded, with nothing different", x.count(12), 2);
            x.undo();
            x.undo();
            due("undone", x.count(7 + setting), first);
        }
    }

    // ---- promise 3

    @Says(where = "Promise 3", words = "NO_SUCH if there is no such weight")
    static void weights() {
        range("weight", 0, 7, NO_SUCH, weight -> new WarmRods().weight(weight));
        for (int weight : new int[] {31, 32, 33, 39, 256}) { // what a shift would take for 31, 0, 1, 7, 0
            due("weight " + weight, new WarmRods().weight(weight), NO_SUCH);
        }
    }

    @Says(where = "Promise 3", words = "Returns 1 if it lies there then, otherwise 0")
    static void laidOrTaken() {
        WarmRods x = new WarmRods();
        for (int weight = 0; weight < 8; weight++) {
            due("laid: " + weight, x.weight(weight), 1);
        }
        due("full", x.count(3), 255);
        for (int weight = 0; weight < 8; weight++) {
            due("taken: " + weight, x.weight(weight), 0);
        }
        due("empty", x.count(3), 0);
    }

    @Says(where = "Promise 3", words = "Lays a weight on the tray, or takes it away. This is a change.")
    static void weightIsAChange() {
        WarmRods x = new WarmRods();
        x.weight(0);
        due("recorded", x.count(12), 1);
        x.weight(0);
        due("recorded again", x.count(12), 2);
        due("undo", x.undo(), 1);
        due("lies there again", x.count(3), 1);
        due("undo", x.undo(), 0);
        due("as at first", x.count(3), 0);
    }

    // ---- promise 4

    @Says(where = "Promise 4", words = "`heat`: -20 to 50")
    static void heatOfPass() {
        range("heat", -20, 50, BAD_VALUE, heat -> new WarmRods().pass(heat, 1000, 0, 1));
    }

    @Says(where = "Promise 4", words = "`air`: 800 to 1200")
    static void airOfPass() {
        range("air", 800, 1200, BAD_VALUE, air -> new WarmRods().pass(20, air, 0, 1));
    }

    @Says(where = "Promise 4", words = "`radio`: 1 if the radio tells seconds, otherwise 0")
    static void radioOfPass() {
        range("radio", 0, 1, BAD_VALUE, radio -> new WarmRods().pass(20, 1000, radio, 1));
        due("0 is without", plain(500, 1).pass(20, 1000, 0, 1), 0);
        due("1 is with it", plain(500, 1).pass(20, 1000, 1, 1), 1);
    }

    @Says(where = "Promise 4", words = "`hours`: 1 to 99")
    static void hoursOfPass() {
        range("hours", 1, 99, BAD_VALUE, hours -> new WarmRods().pass(20, 1000, 0, hours));
        due("1 hour", goBy(new WarmRods(), 0, 1).count(0), 1);
        due("99 hours", goBy(new WarmRods(), 0, 99).count(0), 99);
    }

    @Says(where = "Promise 4", words = "Returns how often the clock is set in them")
    static void howOftenSet() {
        due("never", plain(0, 1).pass(20, 1000, 1, 99), 0);
        due("in each hour", plain(500, 1).pass(20, 1000, 1, 99), 99);
        due("in each other hour", plain(1, 3).pass(20, 1000, 1, 99), 49);
        WarmRods x = plain(500, 1);
        x.pass(20, 1000, 1, 99);
        due("not those of hours before", x.pass(20, 1000, 1, 1), 1);
        due("so far", x.count(4), 100);
    }

    @Says(where = "Promise 4", words = "NOT_POSSIBLE if there would be more than 9999 hours")
    static void lastHours() {
        WarmRods x = behind(9998);
        due("two hours", x.pass(20, 1000, 0, 2), NOT_POSSIBLE);
        due("none of them has gone by", x.count(0), 9998);
        due("the last one", x.pass(20, 1000, 0, 1), 0);
        due("all hours", x.count(0), ALL_HOURS);
        due("one more", x.pass(20, 1000, 0, 1), NOT_POSSIBLE);
        due("99 more", x.pass(20, 1000, 0, 99), NOT_POSSIBLE);
    }

    @Says(where = "Promise 4", words = "NOT_POSSIBLE if there would be more than 9999 hours")
    static void last99Hours() {
        WarmRods x = behind(9900);
        due("99 hours", x.pass(20, 1000, 1, 99), 0);
        due("all hours", x.count(0), ALL_HOURS);
        WarmRods y = behind(9901);
        due("99 hours, one too many", y.pass(20, 1000, 1, 99), NOT_POSSIBLE);
        due("none with the radio", y.count(6), 0);
        due("98 hours", y.pass(20, 1000, 1, 98), 0);
        due("all hours", y.count(0), ALL_HOURS);
    }

    @Says(where = "Promise 4", words = "NOT_POSSIBLE if there would be more than 9999 hours")
    static void hoursOfNow() {
        WarmRods x = behind(9900);
        x.save(0);
        x.pass(20, 1000, 0, 99);
        due("full", x.pass(20, 1000, 0, 1), NOT_POSSIBLE);
        x.restore(0);
        due("restored", x.pass(20, 1000, 0, 99), 0);
        due("full again", x.pass(20, 1000, 0, 1), NOT_POSSIBLE);
        x.undo();
        due("undone", x.pass(20, 1000, 0, 99), 0);
        due("all hours", x.count(0), ALL_HOURS);
    }

    @Says(where = "Promise 4", words = "BAD_VALUE if an argument is out of range; NOT_POSSIBLE if")
    static void badValueFirst() {
        WarmRods x = behind(ALL_HOURS);
        due("heat", x.pass(51, 1000, 0, 1), BAD_VALUE);
        due("air", x.pass(20, 1201, 0, 1), BAD_VALUE);
        due("radio", x.pass(20, 1000, 2, 1), BAD_VALUE);
        due("hours", x.pass(20, 1000, 0, 100), BAD_VALUE);
        due("no hours", x.pass(20, 1000, 0, 0), BAD_VALUE);
        due("MAX hours", x.pass(20, 1000, 0, MAX), BAD_VALUE);
        due("MIN hours", x.pass(20, 1000, 0, MIN), BAD_VALUE);
        due("all of them right", x.pass(20, 1000, 0, 1), NOT_POSSIBLE);
        due("several of them wrong", new WarmRods().pass(-21, 799, -1, 0), BAD_VALUE);
    }

    @Says(where = "Promise 4", words = "Hours go by. This is a change.")
    static void passIsAChange() {
        WarmRods x = plain(-500, 1);
        x.pass(20, 1000, 1, 99);
        due("one change with all hours", x.count(12), 5);
        due("set", x.count(4), 99);
        due("undo", x.undo(), 4);
        due("no hours", x.count(0), 0);
        due("none with the radio", x.count(6), 0);
        due("not set", x.count(4), 0);
        due("no weights", x.count(3), 0);
        due("an empty log", x.count(5), 0);
        x.pass(20, 1000, 0, 1);
        due("recorded, without being set", x.count(12), 5);
    }

    // ---- promise 5

    @Says(where = "Promise 5", words = "Sets the clock: it is off by 0, and nothing is carried (weights stay).")
    static void zeroSets() {
        WarmRods fast = goBy(plain(0, 500, 0), 0, 1);
        fast.zero();
        due("fast: off by", fast.count(1), RIGHT);
        due("fast: carried", fast.count(2), 1000);
        due("fast: weights", fast.count(3), 1);
        WarmRods slow = goBy(plain(-2, 500, 0), 0, 1);
        slow.zero();
        due("slow: off by", slow.count(1), RIGHT);
        due("slow: carried", slow.count(2), 1000);
        due("slow: weights", slow.count(3), 1);
        due("nothing carried into the next hour", goBy(slow, 0, 1).count(1), RIGHT - 3);
    }

    @Says(where = "Promise 5", words = "Sets the clock")
    static void zeroIsNotTheRadio() {
        WarmRods x = goBy(plain(500, 1, 7), 0, 1);
        x.zero();
        due("not set by the radio", x.count(4), 0);
        due("no hour has gone by", x.count(0), 1);
        due("the hour was not set", x.hour(0, 5), 0);
        due("the hour was off all the same", x.hour(0, 4), RIGHT + 2260);
        due("no rule moves a weight", x.count(3), 128);
    }

    @Says(where = "Promise 5", words = "Returns by how many thousandths it was off, and 1000000000.")
    static void zeroTells() {
        due("right", new WarmRods().zero(), RIGHT);
        due("fast", goBy(plain(1, 500), 0, 2).zero(), RIGHT + 7);
        due("slow", goBy(plain(-1, 500), 0, 2).zero(), RIGHT - 7);
        WarmRods x = goBy(plain(500, 500), 0, ALL_HOURS);
        due("fast by all hours", x.zero(), RIGHT + 1800 * ALL_HOURS);
        due("right then", x.zero(), RIGHT);
    }

    @Says(where = "Promise 5", words = "This is a change.")
    static void zeroIsAChange() {
        WarmRods x = new WarmRods();
        x.zero();
        due("recorded, though it was right", x.count(12), 1);
        x = goBy(plain(1, 500), 0, 1);
        x.zero();
        due("recorded", x.count(12), 6);
        due("undo", x.undo(), 5);
        due("off again", x.count(1), RIGHT + 3);
        due("carried again", x.count(2), 1600);
    }
}
