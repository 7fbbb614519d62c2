/** The sentences of promises 10 to 14: what if; nothing changes. */
public final class EdgesOfWhatIf extends Edges {
    public static void main(String[] args) {
        runAll(EdgesOfWhatIf.class);
    }

    /** A clock that feels heat alone, by one millionth for each degree. */
    private static WarmRods byDegrees(int base, int... weights) {
        WarmRods x = plain(base, 500, weights);
        x.set(ROD, 1);
        return x;
    }

    @Says(where = "Ahead of the calls", words = "Ahead of the calls `rate`, `bestWeights`, `offIn`, `replay`, `coolest` the "
        + "interface says: ---- what if; nothing changes.")
    static void nothingChanges() {
        WarmRods asked = used();
        asked.rate(-20, 800);
        asked.rate(50, 1200);
        asked.bestWeights(-20, 800, 0);
        asked.bestWeights(50, 1200, 1);
        asked.offIn(50, 1200);
        asked.offIn(20, 1000);
        asked.replay();
        asked.coolest(1200);
        asked.coolest(800);
        same("behind all of them", whole(asked), whole(used()));
    }

    // ---- promise 10

    @Says(where = "Promise 10", words = "BAD_VALUE if heat or air is out of range")
    static void rangesOfRate() {
        range("heat", -20, 50, BAD_VALUE, heat -> new WarmRods().rate(heat, 800));
        range("air", 800, 1200, BAD_VALUE, air -> new WarmRods().rate(50, air));
        due("both", new WarmRods().rate(51, 1201), BAD_VALUE);
    }

    @Says(where = "Promise 10", words = "Returns the rate of an hour now.")
    @Says(where = "Promise 10", words = "Returns the rate, and 100000")
    static void rateOfNow() {
        WarmRods x = new WarmRods();
        due("at first, the coldest and thinnest", x.rate(-20, 800), NO_RATE + 480 + 300);
        due("at first, the coldest and thickest", x.rate(-20, 1200), NO_RATE + 480 - 300);
        due("at first, the hottest and thinnest", x.rate(50, 800), NO_RATE - 360 + 300);
        due("at first, the hottest and thickest", x.rate(50, 1200), NO_RATE - 360 - 300);
        due("0", x.rate(20, 1000), NO_RATE);
        x.pass(50, 1200, 1, 9); // slow by so much that weights are laid
        due("with the weights of now", x.rate(20, 1000), NO_RATE + x.count(3));
        x.weight(7);
        due("with one more", x.rate(20, 1000), NO_RATE + x.count(3));
        x.set(BASE, -500);
        due("with the settings of now", x.rate(20, 1000), NO_RATE - 500 + x.count(3));
    }

    // ---- promise 11

    @Says(where = "Promise 11", words = "BAD_VALUE if an argument is out of range")
    static void rangesOfBestWeights() {
        for (int what = 0; what < 2; what++) {
            int asked = what;
            range("heat", -20, 50, BAD_VALUE, heat -> new WarmRods().bestWeights(heat, 1000, asked));
            range("air", 800, 1200, BAD_VALUE, air -> new WarmRods().bestWeights(20, air, asked));
        }
        due("all of them", new WarmRods().bestWeights(51, 1201, 2), BAD_VALUE);
    }

    @Says(where = "Promise 11", words = "`what`: 0 the set, 1 the rate, and 100000")
    @Says(where = "Promise 11", words = "Returns the number")
    static void whatOfBestWeights() {
        range("what", 0, 1, BAD_VALUE, what -> new WarmRods().bestWeights(20, 1000, what));
        due("the set for -1", plain(-1, 500).bestWeights(20, 1000, 0), 1);
        due("the rate for -1", plain(-1, 500).bestWeights(20, 1000, 1), NO_RATE);
    }

    // Two sets never give the same rate, and rates as far above 0 as below have 0 between them, which is another
    // set's: of several sets that are nearest there is but one.
    @Says(where = "Promise 11", words = "the weights with which the rate of an hour would be nearest to 0, of several the set that is "
        + "least as a number")
    static void nearestTo0() {
        for (int base = -500; base <= 500; base++) {
            WarmRods x = plain(base, 500);
            int best = base > 0 ? 0 : base < -255 ? 255 : -base;
            due("the set for " + base, x.bestWeights(20, 1000, 0), best);
            due("the rate for " + base, x.bestWeights(20, 1000, 1), NO_RATE + base + best);
        }
    }

    @Says(where = "Promise 11", words = "the weights with which the rate of an hour would be nearest to 0")
    static void farFrom0() {
        WarmRods x = plain(500, 500);
        x.set(ROD, 99);
        x.set(AIR, 99);
        due("none for the fastest hour", x.bestWeights(-20, 800, 0), 0);
        due("its rate", x.bestWeights(-20, 800, 1), NO_RATE + 6440);
        x.set(BASE, -500);
        due("all for the slowest hour", x.bestWeights(50, 1200, 0), 255);
        due("its rate", x.bestWeights(50, 1200, 1), NO_RATE - 5195);
    }

    @Says(where = "Promise 11", words = "Finds the weights")
    static void whateverLiesThere() {
        WarmRods x = plain(-40, 500, 0, 1, 2, 3, 4, 5, 6, 7);
        due("the set, with a full tray", x.bestWeights(20, 1000, 0), 40);
        due("the rate, with a full tray", x.bestWeights(20, 1000, 1), NO_RATE);
        due("the tray", x.count(3), 255);
    }

    // ---- promise 12

    @Says(where = "Promise 12", words = "BAD_VALUE if heat or air is out of range")
    static void rangesOfOffIn() {
        range("heat", -20, 50, BAD_VALUE, heat -> new WarmRods().offIn(heat, 800));
        range("air", 800, 1200, BAD_VALUE, air -> new WarmRods().offIn(50, air));
        due("both", new WarmRods().offIn(-21, 799), BAD_VALUE);
        WarmRods off = goBy(plain(500, 1), 0, 1);
        due("heat, though it is off", off.offIn(51, 1000), BAD_VALUE);
        due("air, though it is off", off.offIn(20, 1201), BAD_VALUE);
    }

    @Says(where = "Promise 12", words = "Returns how many (0 if it is)")
    static void offNow() {
        due("by 3, LIMIT 2", goBy(plain(1, 2), 0, 1).offIn(20, 1000), 0);
        due("by -3, LIMIT 2", goBy(plain(-1, 2), 0, 1).offIn(20, 1000), 0);
        due("by 3, LIMIT 3", goBy(plain(1, 3), 0, 1).offIn(20, 1000), 1);
        due("by -3, LIMIT 3", goBy(plain(-1, 3), 0, 1).offIn(20, 1000), 1);
        WarmRods x = goBy(plain(1, 2), 0, 1);
        x.set(BASE, 0);
        due("by 3, LIMIT 2, and nothing comes", x.offIn(20, 1000), 0);
        x.set(BASE, -1);
        due("by 3, LIMIT 2, and it would be less", x.offIn(20, 1000), 0);
    }

    @Says(where = "Promise 12", words = "Tells in how many hours the clock would be off by more than LIMIT")
    static void moreThanLimit() {
        due("3 in an hour, LIMIT 2", plain(1, 2).offIn(20, 1000), 1);
        due("3 in an hour, LIMIT 3", plain(1, 3).offIn(20, 1000), 2);
        due("-3 in an hour, LIMIT 2", plain(-1, 2).offIn(20, 1000), 1);
        due("-3 in an hour, LIMIT 3", plain(-1, 3).offIn(20, 1000), 2);
        due("18 in five hours, LIMIT 17", plain(1, 17).offIn(20, 1000), 5);
        due("18 in five hours, LIMIT 18", plain(1, 18).offIn(20, 1000), 6);
        due("1800 in an hour, LIMIT 5000", plain(500, 5000).offIn(20, 1000), 3);
        due("-1800 in an hour, LIMIT 5000", plain(-500, 5000).offIn(20, 1000), 3);
    }

    @Says(where = "Promise 12", words = "the clock would be off by more than LIMIT, if all hours were such")
    static void throughRight() {
        WarmRods slow = goBy(plain(-1, 3), 0, 1);
        slow.set(BASE, 1);
        due("from -3.6 by 3.6 an hour, to 7.2", slow.offIn(20, 1000), 3);
        WarmRods fast = goBy(plain(1, 3), 0, 1);
        fast.set(BASE, -1);
        due("from 3.6 by -3.6 an hour, to -7.2", fast.offIn(20, 1000), 3);
    }

    @Says(where = "Promise 12", words = "without the radio")
    static void offInWithoutTheRadio() {
        WarmRods x = plain(1, 3);
        x.pass(20, 1000, 1, 2);
        due("set in the second hour", x.count(4), 1);
        due("off again in two", x.offIn(20, 1000), 2);
        due("not set by it", x.count(4), 1);
    }

    // The farthest way there is, from one end of the greatest LIMIT beyond the other one by the least rate, takes 2779
    // hours; so more than 5000 are told of a rate of 0 alone.
    @Says(where = "Promise 12", words = "NONE if it takes more than 5000")
    static void farthestWay() {
        WarmRods slow = goBy(plain(-500, 5000), 0, 2);
        slow.set(BASE, -389);
        slow.pass(20, 1000, 0, 1); // -5000, and -400 carried
        due("off by -5000", slow.count(1), RIGHT - 5000);
        slow.set(BASE, 1);
        due("to 5001 by 3.6 an hour", slow.offIn(20, 1000), 2779);
        slow.set(BASE, -1);
        due("to -5004", slow.offIn(20, 1000), 1);
        WarmRods fast = goBy(plain(500, 5000), 0, 2);
        fast.set(BASE, 389);
        fast.pass(20, 1000, 0, 1);
        fast.set(BASE, -1);
        due("to -5001 by -3.6 an hour", fast.offIn(20, 1000), 2779);
        due("to 5001 from 0", plain(1, 5000).offIn(20, 1000), 1390);
    }

    @Says(where = "Promise 12", words = "NONE if it takes more than 5000")
    static void neverOff() {
        due("right", plain(0, 1).offIn(20, 1000), NONE);
        WarmRods x = goBy(plain(1, 3), 0, 1);
        x.set(BASE, 0);
        due("off by the limit, and 600 carried", x.offIn(20, 1000), NONE);
        x = goBy(plain(-1, 3), 0, 1);
        x.set(BASE, 0);
        due("off by the limit, the other way", x.offIn(20, 1000), NONE);
    }

    // ---- promise 13

    @Says(where = "Promise 13", words = "Tells by how much the clock would be off if the hours of the log had gone by anew")
    static void replayOfNoHours() {
        due("a new clock", new WarmRods().replay(), RIGHT);
        WarmRods x = goBy(plain(500, 5000), 0, 1);
        due("an hour", x.replay(), RIGHT + 1800);
        x.undo();
        due("the hour undone", x.replay(), RIGHT);
    }

    @Says(where = "Promise 13", words = "if the hours of the log had gone by anew (their heat and air)")
    static void replayOfFullLog() {
        WarmRods x = new WarmRods();
        x.pass(-20, 800, 0, 1); // 780
        x.pass(20, 1000, 0, 46);
        due("47 hours", x.replay(), RIGHT + 2808);
        x.pass(20, 1000, 0, 1);
        due("48 hours", x.replay(), RIGHT + 2808);
        x.pass(50, 1200, 0, 1); // -660
        due("49 hours: the oldest one is gone", x.replay(), RIGHT - 2376);
        x.pass(20, 1000, 0, 47);
        due("the oldest one of 48", x.replay(), RIGHT - 2376);
        x.pass(20, 1000, 0, 1);
        due("none of them left", x.replay(), RIGHT);
    }

    @Says(where = "Promise 13", words = "Returns the thousandths, and 1000000000.")
    static void thousandthsOfReplay() {
        due("fast by 3.6", goBy(plain(1, 500), 0, 1).replay(), RIGHT + 3);
        due("slow by 3.6", goBy(plain(-1, 500), 0, 1).replay(), RIGHT - 3);
        due("fast by 48 times 3.6", goBy(plain(1, 500), 0, 48).replay(), RIGHT + 172);
        due("right", goBy(plain(0, 500), 0, 48).replay(), RIGHT);
        WarmRods x = goBy(plain(0, 500), 0, 48);
        x.set(BASE, 500);
        due("fast by 48 times 1800", x.replay(), RIGHT + 86400);
        x.set(BASE, -500);
        due("slow by 48 times 1800", x.replay(), RIGHT - 86400);
    }

    @Says(where = "Promise 13", words = "from the oldest one on")
    static void replayFromTheOldest() {
        WarmRods x = byDegrees(0);
        x.pass(18, 1000, 0, 1); // 7200: 7, and 200 carried
        x.pass(21, 1000, 0, 1); // 200 less 3600: -3, and -400 carried
        due("of 2 and -1", x.replay(), RIGHT + 4);
        WarmRods y = byDegrees(0);
        y.pass(21, 1000, 0, 1); // -3600: -3, and -600 carried
        y.pass(18, 1000, 0, 1); // -600 and 7200: 6, and 600 carried
        due("of -1 and 2", y.replay(), RIGHT + 3);
    }

    @Says(where = "Promise 13", words = "from a clock that is right")
    static void replayFromRight() {
        WarmRods x = goBy(plain(1, 5000), 0, 49);
        due("off by 49 hours", x.count(1), RIGHT + 176);
        due("48 of them, and nothing carried into them", x.replay(), RIGHT + 172);
        x.zero();
        due("though it is right now", x.replay(), RIGHT + 172);
    }

    @Says(where = "Promise 13", words = "with the settings of now")
    static void replayWithSettings() {
        WarmRods x = new WarmRods();
        x.pass(21, 1010, 0, 1); // -12 - 15
        due("as it was", x.replay(), RIGHT - 97);
        x.set(ROD, 0);
        due("without ROD", x.replay(), RIGHT - 54);
        x.set(AIR, 0);
        due("without AIR", x.replay(), RIGHT);
        x.set(BASE, -500);
        due("with BASE", x.replay(), RIGHT - 1800);
        x.set(LIMIT, 1);
        due("with another LIMIT", x.replay(), RIGHT - 1800);
    }

    @Says(where = "Promise 13", words = "with the weights that are on the tray now all the time")
    static void replayWithWeights() {
        WarmRods x = plain(0, 5000, 7);
        x.pass(20, 1000, 0, 2);
        due("with 7", x.replay(), RIGHT + 921); // 256 * 3.6
        x.weight(7);
        due("without any", x.replay(), RIGHT);
        x.weight(0);
        due("with 0", x.replay(), RIGHT + 7);
    }

    @Says(where = "Promise 13", words = "and without the radio")
    static void replayWithoutTheRadio() {
        WarmRods x = plain(500, 1);
        x.pass(20, 1000, 1, 48);
        due("set in each hour", x.count(4), 48);
        due("set in none", x.replay(), RIGHT + 86400);
        WarmRods slow = plain(-500, 1);
        slow.pass(20, 1000, 1, 1);
        due("no weight is laid by it", slow.replay(), RIGHT - 1796); // with the weight 0, that lies there now
        due("the tray", slow.count(3), 1);
    }

    // ---- promise 14

    @Says(where = "Promise 14", words = "Returns the heat, and 100")
    static void heatAnd100() {
        due("-20", plain(0, 500).coolest(1000), 80);
        due("-1", byDegrees(-21).coolest(1000), 99);
        due("0", byDegrees(-20).coolest(1000), 100);
        due("1", byDegrees(-19).coolest(1000), 101);
        due("50", byDegrees(30).coolest(1000), 150);
    }

    @Says(where = "Promise 14", words = "BAD_VALUE if air is out of range")
    static void rangeOfCoolest() {
        range("air", 800, 1200, BAD_VALUE, air -> new WarmRods().coolest(air));
        range("air, where there is none", 800, 1200, BAD_VALUE, air -> plain(1, 500).coolest(air));
    }

    @Says(where = "Promise 14", words = "Finds the least heat, -20 to 50")
    static void leastHeat() {
        due("1 above 0 at -20", byDegrees(-39).coolest(1000), 100 - 19);
        due("0 at -20", byDegrees(-40).coolest(1000), 100 - 20);
        due("below 0 at -20", byDegrees(-41).coolest(1000), 100 - 20);
        due("0 at 0 degrees", byDegrees(-20).coolest(1000), 100);
        due("0 at 20", byDegrees(0).coolest(1000), 120);
        due("0 at 49", byDegrees(29).coolest(1000), 149);
        due("0 at 50", byDegrees(30).coolest(1000), 150);
    }

    @Says(where = "Promise 14", words = "with which the rate would not be above 0")
    static void notAbove0() {
        due("0 at all heats", plain(0, 500).coolest(1000), 80);
        due("-1 at all heats", plain(-1, 500).coolest(1000), 80);
        due("1 at all heats", plain(1, 500).coolest(1000), NONE);
        WarmRods x = plain(1, 500);
        x.set(ROD, 2);
        due("1 at 20, -1 at 21", x.coolest(1000), 121);
    }

    @Says(where = "Promise 14", words = "NONE if there is none")
    static void noneCoolest() {
        due("1 at 50", byDegrees(31).coolest(1000), NONE);
        due("by a weight", byDegrees(30, 0).coolest(1000), NONE);
        WarmRods x = byDegrees(0);
        x.set(AIR, 99);
        due("by thin air", x.coolest(800), NONE);
        due("not by thick air", x.coolest(1200), 80);
    }
}
