/** The sentences ahead of the promises, but for the texts: what it is, and its terms. They hold for all promises. */
public final class EdgesOfTerms extends Edges {
    public static void main(String[] args) {
        runAll(EdgesOfTerms.class);
    }

    // ---- 512 calls

    /** A clock after as many calls, by which an hour has gone, and that has something saved and something on its pad. */
    private static WarmRods calledSoOften(int calls) {
        WarmRods x = new WarmRods();
        for (int i = 5; i < calls; i++) {
            x.zero();
        }
        x.set(BASE, 2);
        x.weight(0);
        x.pass(20, 1000, 1, 1); // 10800
        x.save(1);
        x.put('z');
        return x;
    }

    @Says(where = "What it is", words = "An object is used for at most 512 calls after it has been made")
    static void eachMethodAsThe512thCall() {
        due("set", calledSoOften(511).set(BASE, 0), 1002);
        due("weight", calledSoOften(511).weight(7), 1);
        due("pass", calledSoOften(511).pass(20, 1000, 1, 99), 1); // beyond 500 once, and then 2 millionths
        due("zero", calledSoOften(511).zero(), RIGHT + 10);
        due("hour", calledSoOften(511).hour(0, 3), NO_RATE + 3);
        due("count", calledSoOften(511).count(2), 1800);
        due("meanRate", calledSoOften(511).meanRate(), Double.doubleToLongBits(3.0));
        due("ofLog", calledSoOften(511).ofLog(2), 1);
        due("rate", calledSoOften(511).rate(21, 1000), NO_RATE + 3 - 12);
        due("bestWeights", calledSoOften(511).bestWeights(21, 1000, 0), 10);
        due("offIn", calledSoOften(511).offIn(20, 1000), 46); // 10.8 and 46 * 10.8
        due("replay", calledSoOften(511).replay(), RIGHT + 10);
        due("coolest", calledSoOften(511).coolest(1000), 121);
        due("put", calledSoOften(511).put(';'), 2);
        due("wipe", calledSoOften(511).wipe(), 1);
        due("fault", calledSoOften(511).fault(), NONE);
        due("carryOut", calledSoOften(511).carryOut(), 1);
        due("undo", calledSoOften(511).undo(), 5);
        due("save", calledSoOften(511).save(0), 1);
        due("restore", calledSoOften(511).restore(1), 1);
    }

    @Says(where = "What it is", words = "An object is used for at most 512 calls after it has been made")
    static void changesIn512Calls() {
        WarmRods weights = new WarmRods();
        for (int call = 1; call <= 512; call++) {
            due("weight, call " + call, weights.weight(7), call % 2);
        }
        WarmRods hours = new WarmRods();
        for (int call = 1; call <= 512; call++) {
            due("pass, call " + call, hours.pass(20, 1000, 1, 99), call <= 101 ? 0 : NOT_POSSIBLE);
        }
        WarmRods pad = new WarmRods();
        for (int call = 1; call <= 512; call++) {
            due("put, call " + call, pad.put('z'), call <= 80 ? call : TOO_MANY);
        }
        WarmRods saved = new WarmRods();
        for (int call = 1; call <= 512; call += 2) {
            due("save, call " + call, saved.save(0), 0);
            due("restore, call " + (call + 1), saved.restore(0), 0);
        }
    }

    // ---- conventions

    @Says(where = "CONVENTIONS", words = "CONVENTIONS. A method that fails returns one of the error codes NO_SUCH (-1), BAD_VALUE (-2), "
        + "BAD_TEXT (-3), TOO_MANY (-4) and NOT_POSSIBLE (-5)")
    static void codesOfErrors() {
        due("weight(8)", new WarmRods().weight(8), -1);
        due("hour(0, 0) without hours", new WarmRods().hour(0, 0), -1);
        due("set(4, 0)", new WarmRods().set(4, 0), -2);
        due("pass(51, 1000, 0, 1)", new WarmRods().pass(51, 1000, 0, 1), -2);
        due("hour(0, 7)", goBy(new WarmRods(), 0, 1).hour(0, 7), -2);
        due("count(13)", new WarmRods().count(13), -2);
        due("ofLog(5)", new WarmRods().ofLog(5), -2);
        due("rate(51, 1000)", new WarmRods().rate(51, 1000), -2);
        due("bestWeights(51, 1000, 0)", new WarmRods().bestWeights(51, 1000, 0), -2);
        due("offIn(51, 1000)", new WarmRods().offIn(51, 1000), -2);
        due("coolest(799)", new WarmRods().coolest(799), -2);
        due("put(0)", new WarmRods().put(0L), -2);
        due("save(2)", new WarmRods().save(2), -2);
        due("restore(2)", new WarmRods().restore(2), -2);
        due("carryOut() of an empty pad", new WarmRods().carryOut(), -3);
        due("put('z') on a full pad", write(new WarmRods(), "z".repeat(80)).put('z'), -4);
        due("pass() beyond all hours", goBy(new WarmRods(), 0, ALL_HOURS).pass(20, 1000, 0, 1), -5);
        due("undo() of nothing", new WarmRods().undo(), -5);
        due("restore(0) of nothing", new WarmRods().restore(0), -5);
    }

    @Says(where = "CONVENTIONS", words = "it names its errors in the order in which they are checked, and the first one that applies is "
        + "returned.")
    static void firstErrorThatApplies() {
        WarmRods full = write(goBy(new WarmRods(), 0, ALL_HOURS), "z".repeat(80));
        due("pass: BAD_VALUE, NOT_POSSIBLE", full.pass(20, 1000, 0, 100), BAD_VALUE);
        due("pass: NOT_POSSIBLE alone", full.pass(20, 1000, 0, 99), NOT_POSSIBLE);
        due("hour: NO_SUCH, BAD_VALUE", full.hour(48, 7), NO_SUCH);
        due("hour: BAD_VALUE alone", full.hour(47, 7), BAD_VALUE);
        due("put: BAD_VALUE, TOO_MANY", full.put(32L), BAD_VALUE);
        due("put: TOO_MANY alone", full.put('!'), TOO_MANY);
        due("restore: BAD_VALUE, NOT_POSSIBLE", full.restore(2), BAD_VALUE);
        due("restore: NOT_POSSIBLE alone", full.restore(1), NOT_POSSIBLE);
    }

    @Says(where = "CONVENTIONS", words = "Everything is numbered from 0.")
    static void numberedFrom0() {
        WarmRods x = plain(2, 500);
        due("set(0, 0)", x.set(0, 0), 1000);
        due("weight(0)", x.weight(0), 1);
        due("save(0)", x.save(0), 1);
        due("restore(0)", x.restore(0), 1);
        due("fault()", write(x, "x").fault(), 0);
        due("pass", x.pass(20, 1000, 0, 1), 0);
        due("hour(0, 0)", x.hour(0, 0), 120);
        due("ofLog(0)", x.ofLog(0), NO_RATE + 3);
        due("count(0)", x.count(0), 1);
        due("bestWeights(20, 1000, 0)", x.bestWeights(20, 1000, 0), 0);
    }

    @Says(where = "CONVENTIONS", words = "NONE (-6) is not an error; it is returned only if no error applies.")
    static void noneOfLog() {
        due("ofLog(0)", new WarmRods().ofLog(0), NONE);
        due("ofLog(4)", new WarmRods().ofLog(4), NONE);
        due("ofLog(5)", new WarmRods().ofLog(5), BAD_VALUE);
        due("ofLog(-1)", new WarmRods().ofLog(-1), BAD_VALUE);
    }

    @Says(where = "CONVENTIONS", words = "NONE (-6) is not an error; it is returned only if no error applies.")
    static void noneOfOffIn() {
        WarmRods x = plain(0, 500);
        due("offIn(50, 1200)", x.offIn(50, 1200), NONE);
        due("offIn(51, 1200)", x.offIn(51, 1200), BAD_VALUE);
        due("offIn(50, 1201)", x.offIn(50, 1201), BAD_VALUE);
        due("offIn(-21, 800)", x.offIn(-21, 800), BAD_VALUE);
        due("offIn(-20, 799)", x.offIn(-20, 799), BAD_VALUE);
    }

    @Says(where = "CONVENTIONS", words = "NONE (-6) is not an error; it is returned only if no error applies.")
    static void noneOfCoolest() {
        WarmRods x = plain(1, 500);
        due("coolest(800)", x.coolest(800), NONE);
        due("coolest(1200)", x.coolest(1200), NONE);
        due("coolest(799)", x.coolest(799), BAD_VALUE);
        due("coolest(1201)", x.coolest(1201), BAD_VALUE);
    }

    @Says(where = "CONVENTIONS", words = "Rates are told in millionths (of a second in a second)")
    static void millionths() {
        WarmRods x = plain(1, 5000);
        due("1 millionth", x.rate(20, 1000), NO_RATE + 1);
        due("of the 3600 seconds of 5 hours: 18 thousandths", goBy(x, 0, 5).count(1), RIGHT + 18);
        due("of 1000 hours: 3600 thousandths", goBy(x, 0, 995).count(1), RIGHT + 3600);
        due("told by the hour", x.hour(0, 3), NO_RATE + 1);
        due("the mean", x.meanRate(), Double.doubleToLongBits(1.0));
        due("the greatest", x.ofLog(0), NO_RATE + 1);
    }

    @Says(where = "CONVENTIONS", words = "above 0 the clock is fast.")
    static void fastAbove0() {
        due("of 1", goBy(plain(1, 500), 0, 1).ofLog(2), 1);
        due("of 0", goBy(plain(0, 500), 0, 1).ofLog(2), 0);
        due("of -1", goBy(plain(-1, 500), 0, 1).ofLog(2), 0);
        due("off by, of 1", goBy(plain(1, 500), 0, 1).count(1), RIGHT + 3);
        due("off by, of 0", goBy(plain(0, 500), 0, 1).count(1), RIGHT);
        due("off by, of -1", goBy(plain(-1, 500), 0, 1).count(1), RIGHT - 3);
    }

    @Says(where = "CONVENTIONS", words = "Divisions are rounded toward 0, if nothing else is told.")
    static void productTowardZero() {
        WarmRods x = plain(0, 500);
        x.set(AIR, 1);
        due("air 991: -9 by 10", x.rate(20, 991), NO_RATE);
        due("air 990: -10 by 10", x.rate(20, 990), NO_RATE + 1);
        due("air 981: -19 by 10", x.rate(20, 981), NO_RATE + 1);
        due("air 1009: 9 by 10", x.rate(20, 1009), NO_RATE);
        due("air 1010: 10 by 10", x.rate(20, 1010), NO_RATE - 1);
        due("air 1019: 19 by 10", x.rate(20, 1019), NO_RATE - 1);
        x.set(BASE, 1);
        due("BASE 1, air 1001: only the product is divided", x.rate(20, 1001), NO_RATE + 1);
        x.set(BASE, -1);
        due("BASE -1, air 999: only the product is divided", x.rate(20, 999), NO_RATE - 1);
    }

    @Says(where = "CONVENTIONS", words = "Divisions are rounded toward 0, if nothing else is told.")
    static void thousandthsTowardZero() {
        WarmRods slow = goBy(plain(-1, 500), 0, 1);
        due("-3600 by 1000", slow.count(1), RIGHT - 3);
        due("is carried", slow.count(2), 1000 - 600);
        WarmRods fast = goBy(plain(1, 500), 0, 1);
        due("3600 by 1000", fast.count(1), RIGHT + 3);
        due("is carried", fast.count(2), 1000 + 600);
    }

    // ---- settings

    @Says(where = "Settings", words = "(In parentheses: range; first value.)")
    static void rangesAndFirstValues() {
        int[] least = {0, 0, -500, 1};
        int[] greatest = {99, 99, 500, 5000};
        int[] first = {12, 15, 0, 500};
        for (int setting = ROD; setting <= LIMIT; setting++) {
            int which = setting;
            due("first value of " + setting, new WarmRods().count(7 + setting), first[setting] + 1000);
            range("set(" + setting + ")", least[setting], greatest[setting], BAD_VALUE, value -> new WarmRods().set(which, value));
        }
        due("the first values give the first rate", new WarmRods().rate(30, 1100), NO_RATE - 120 - 150);
    }

    @Says(where = "Texts", words = "`ROD = 0, AIR = 1, BASE = 2, LIMIT = 3`: Settings.")
    static void settingsByTheirConstants() {
        due("ROD", WarmRods.ROD, 0);
        due("AIR", WarmRods.AIR, 1);
        due("BASE", WarmRods.BASE, 2);
        due("LIMIT", WarmRods.LIMIT, 3);
        WarmRods x = plain(0, 500);
        x.set(WarmRods.ROD, 2);
        due("2 slower for a degree", x.rate(21, 1000), NO_RATE - 2);
        x.set(WarmRods.AIR, 3);
        due("3 slower for 10 units", x.rate(20, 1010), NO_RATE - 3);
        x.set(WarmRods.BASE, 5);
        due("5 at 20 degrees", x.rate(20, 1000), NO_RATE + 5);
        x.set(WarmRods.LIMIT, 17);
        due("off by 18 in an hour", x.offIn(20, 1000), 1);
    }

    @Says(where = "The constants", words = "The constants: `NO_SUCH = -1, BAD_VALUE = -2, BAD_TEXT = -3, TOO_MANY = -4, "
        + "NOT_POSSIBLE = -5, NONE = -6`: Error codes, and NONE: there is none.")
    static void codesByTheirConstants() {
        due("NO_SUCH", WarmRods.NO_SUCH, -1);
        due("BAD_VALUE", WarmRods.BAD_VALUE, -2);
        due("BAD_TEXT", WarmRods.BAD_TEXT, -3);
        due("TOO_MANY", WarmRods.TOO_MANY, -4);
        due("NOT_POSSIBLE", WarmRods.NOT_POSSIBLE, -5);
        due("NONE", WarmRods.NONE, -6);
        due("there is no fault", write(new WarmRods(), "z").fault(), WarmRods.NONE);
        due("there are no hours", new WarmRods().ofLog(0), WarmRods.NONE);
    }

    @Says(where = "Settings", words = "ROD (0 to 99; 12)")
    static void rangeOfRod() {
        due("first value", new WarmRods().count(7), 1012);
        range("set(ROD)", 0, 99, BAD_VALUE, value -> new WarmRods().set(ROD, value));
        due("99 stands", setTo(ROD, 99).count(7), 1099);
        due("0 stands", setTo(ROD, 0).count(7), 1000);
    }

    @Says(where = "Settings", words = "AIR (0 to 99; 15)")
    static void rangeOfAir() {
        due("first value", new WarmRods().count(8), 1015);
        range("set(AIR)", 0, 99, BAD_VALUE, value -> new WarmRods().set(AIR, value));
        due("99 stands", setTo(AIR, 99).count(8), 1099);
        due("0 stands", setTo(AIR, 0).count(8), 1000);
    }

    @Says(where = "Settings", words = "BASE (-500 to 500; 0)")
    static void rangeOfBase() {
        due("first value", new WarmRods().count(9), 1000);
        range("set(BASE)", -500, 500, BAD_VALUE, value -> new WarmRods().set(BASE, value));
        due("500 stands", setTo(BASE, 500).count(9), 1500);
        due("-500 stands", setTo(BASE, -500).count(9), 500);
    }

    @Says(where = "Settings", words = "LIMIT (1 to 5000; 500)")
    static void rangeOfLimit() {
        due("first value", new WarmRods().count(10), 1500);
        range("set(LIMIT)", 1, 5000, BAD_VALUE, value -> new WarmRods().set(LIMIT, value));
        due("5000 stands", setTo(LIMIT, 5000).count(10), 6000);
        due("1 stands", setTo(LIMIT, 1).count(10), 1001);
    }

    private static WarmRods setTo(int setting, int value) {
        WarmRods x = new WarmRods();
        x.set(setting, value);
        return x;
    }

    @Says(where = "Settings", words = "millionths by which the clock is slower for each degree above 20")
    static void degreesAbove20() {
        WarmRods x = plain(0, 500);
        x.set(ROD, 99);
        due("at 20", x.rate(20, 1000), NO_RATE);
        due("at 21", x.rate(21, 1000), NO_RATE - 99);
        due("at 19", x.rate(19, 1000), NO_RATE + 99);
        due("at 50", x.rate(50, 1000), NO_RATE - 2970);
        due("at -20", x.rate(-20, 1000), NO_RATE + 3960);
        x.set(ROD, 0);
        due("at 50, ROD 0", x.rate(50, 1000), NO_RATE);
        due("at -20, ROD 0", x.rate(-20, 1000), NO_RATE);
    }

    @Says(where = "Settings", words = "millionths by which it is slower for each 10 units of air above 1000")
    static void airAbove1000() {
        WarmRods x = plain(0, 500);
        x.set(AIR, 99);
        due("at 1000", x.rate(20, 1000), NO_RATE);
        due("at 1001", x.rate(20, 1001), NO_RATE - 9);
        due("at 999", x.rate(20, 999), NO_RATE + 9);
        due("at 1010", x.rate(20, 1010), NO_RATE - 99);
        due("at 990", x.rate(20, 990), NO_RATE + 99);
        due("at 1200", x.rate(20, 1200), NO_RATE - 1980);
        due("at 800", x.rate(20, 800), NO_RATE + 1980);
        x.set(AIR, 0);
        due("at 1200, AIR 0", x.rate(20, 1200), NO_RATE);
        due("at 800, AIR 0", x.rate(20, 800), NO_RATE);
    }

    @Says(where = "Settings", words = "its rate at 20 degrees, with 1000 units of air, and no weight")
    static void baseIsTheRate() {
        due("-500", setTo(BASE, -500).rate(20, 1000), NO_RATE - 500);
        due("500", setTo(BASE, 500).rate(20, 1000), NO_RATE + 500);
        due("0", setTo(BASE, 0).rate(20, 1000), NO_RATE);
    }

    @Says(where = "Settings", words = "thousandths of a second (thousandths) by which the clock may be off")
    static void limitMayBe() {
        WarmRods x = plain(5, 18); // 18000 an hour
        due("off by 18, LIMIT 18", x.pass(20, 1000, 1, 1), 0);
        due("off by 36, LIMIT 18", x.pass(20, 1000, 1, 1), 1);
        x.set(LIMIT, 17);
        due("off by 18, LIMIT 17", x.pass(20, 1000, 1, 1), 1);
        x = goBy(plain(5, 18), 0, 2);
        due("off by 36, without the radio", x.count(1), RIGHT + 36);
        x.set(LIMIT, 1);
        due("another LIMIT sets nothing", x.count(1), RIGHT + 36);
        x.set(LIMIT, 54);
        due("off by 54, LIMIT 54", x.pass(20, 1000, 1, 1), 0);
    }

    // ---- weights

    @Says(where = "Weights", words = "There are 8 weights, 0 to 7; each lies on the tray or not (at first not).")
    static void eightWeights() {
        due("at first", new WarmRods().count(3), 0);
        range("weight", 0, 7, NO_SUCH, weight -> new WarmRods().weight(weight));
        for (int weight = 0; weight < 8; weight++) {
            WarmRods x = new WarmRods();
            due("laid: " + weight, x.weight(weight), 1);
            due("alone on the tray: " + weight, x.count(3), 1 << weight);
            due("taken: " + weight, x.weight(weight), 0);
            due("empty without " + weight, x.count(3), 0);
        }
    }

    @Says(where = "Weights", words = "The weight k makes the clock faster by 2 to the power of k millionths, as long as it lies there.")
    static void whatWeightsGive() {
        int[] gives = {1, 2, 4, 8, 16, 32, 64, 128};
        for (int weight = 0; weight < 8; weight++) {
            WarmRods x = plain(0, 500, weight);
            due("with " + weight, x.rate(20, 1000), NO_RATE + gives[weight]);
            x.weight(weight);
            due("without " + weight, x.rate(20, 1000), NO_RATE);
        }
        due("with all", plain(0, 500, 0, 1, 2, 3, 4, 5, 6, 7).rate(20, 1000), NO_RATE + 255);
        due("without any", plain(0, 500).rate(20, 1000), NO_RATE);
    }

    // ---- hours

    @Says(where = "Hours", words = "An hour has a heat (-20 to 50 degrees)")
    static void rangeOfHeat() {
        range("heat of pass", -20, 50, BAD_VALUE, heat -> new WarmRods().pass(heat, 1000, 0, 1));
        range("heat of rate", -20, 50, BAD_VALUE, heat -> new WarmRods().rate(heat, 1000));
        range("heat of bestWeights", -20, 50, BAD_VALUE, heat -> new WarmRods().bestWeights(heat, 1000, 0));
        range("heat of offIn", -20, 50, BAD_VALUE, heat -> new WarmRods().offIn(heat, 1000));
    }

    @Says(where = "Hours", words = "and air (800 to 1200 units)")
    static void rangeOfAirUnits() {
        range("air of pass", 800, 1200, BAD_VALUE, air -> new WarmRods().pass(20, air, 0, 1));
        range("air of rate", 800, 1200, BAD_VALUE, air -> new WarmRods().rate(20, air));
        range("air of bestWeights", 800, 1200, BAD_VALUE, air -> new WarmRods().bestWeights(20, air, 0));
        range("air of offIn", 800, 1200, BAD_VALUE, air -> new WarmRods().offIn(20, air));
        range("air of coolest", 800, 1200, BAD_VALUE, air -> new WarmRods().coolest(air));
    }

    private static WarmRods fastest() {
        WarmRods x = plain(500, 5000, 0, 1, 2, 3, 4, 5, 6, 7);
        x.set(ROD, 99);
        x.set(AIR, 99);
        return x;
    }

    private static WarmRods slowest() {
        WarmRods x = plain(-500, 5000);
        x.set(ROD, 99);
        x.set(AIR, 99);
        return x;
    }

    @Says(where = "Hours", words = "The rate of an hour is BASE, less ROD * (heat - 20), less the product of AIR and (air - 1000), "
        + "divided by 10, and what the weights give.")
    static void farthestRates() {
        due("greatest", fastest().rate(-20, 800), NO_RATE + 500 + 3960 + 1980 + 255);
        due("least", slowest().rate(50, 1200), NO_RATE - 500 - 2970 - 1980);
    }

    @Says(where = "Hours", words = "In an hour the clock is off by rate * 3600 / 1000 thousandths more")
    static void farthestOff() {
        WarmRods fast = fastest();
        WarmRods slow = slowest();
        for (int i = 0; i < 101; i++) {
            fast.pass(-20, 800, 0, 99);
            slow.pass(50, 1200, 0, 99);
        }
        due("all hours", fast.count(0), ALL_HOURS);
        due("6695 * 3.6 in each hour", fast.count(1), RIGHT + 24102 * ALL_HOURS);
        due("told by the log", fast.hour(0, 4), RIGHT + 24102 * ALL_HOURS);
        due("-5450 * 3.6 in each hour", slow.count(1), RIGHT - 19620 * ALL_HOURS);
        due("told by the log", slow.hour(0, 4), RIGHT - 19620 * ALL_HOURS);
        due("nothing carried", fast.count(2), 1000);
    }

    @Says(where = "Hours", words = "what is carried from the hour ahead (0 at first) is added to rate * 3600 before")
    static void carriedOn() {
        WarmRods x = plain(1, 500);
        due("at first", x.count(2), 1000);
        int[] off = {3, 7, 10, 14, 18, 21};
        int[] carried = {600, 200, 800, 400, 0, 600};
        for (int i = 0; i < off.length; i++) {
            x.pass(20, 1000, 0, 1);
            due("off behind hour " + i, x.count(1), RIGHT + off[i]);
            due("carried behind hour " + i, x.count(2), 1000 + carried[i]);
        }
        due("hours at a time carry, too", goBy(plain(1, 500), 0, 5).count(1), RIGHT + 18);
    }

    @Says(where = "Hours", words = ", and what is left over by 1000 then (with its sign) is carried to the next hour.")
    static void carriedWithItsSign() {
        WarmRods x = plain(-1, 500);
        int[] off = {-3, -7, -10, -14, -18, -21};
        int[] carried = {-600, -200, -800, -400, 0, -600};
        for (int i = 0; i < off.length; i++) {
            x.pass(20, 1000, 0, 1);
            due("off behind hour " + i, x.count(1), RIGHT + off[i]);
            due("carried behind hour " + i, x.count(2), 1000 + carried[i]);
        }
        x.set(BASE, 1);
        x.pass(20, 1000, 0, 1); // -600 and 3600
        due("off, the other way", x.count(1), RIGHT - 18);
        due("carried, the other way", x.count(2), 1000);
        x.pass(20, 1000, 0, 1); // 3600
        x.set(BASE, 0);
        x.pass(20, 1000, 0, 1); // 600 and 0
        due("off, with a rate of 0", x.count(1), RIGHT - 15);
        due("carried on, with a rate of 0", x.count(2), 1600);
        x.set(BASE, -1);
        x.pass(20, 1000, 0, 1); // 600 less 3600
        due("off, slow again", x.count(1), RIGHT - 18);
        due("nothing left", x.count(2), 1000);
    }

    // ---- being set by the radio

    @Says(where = "Hours", words = "off by more than LIMIT thousandths behind the hour, either way, the clock is set")
    static void limitWhenFast() {
        WarmRods x = plain(1, 3);
        due("off by 3, LIMIT 3", x.pass(20, 1000, 1, 1), 0);
        due("still off", x.count(1), RIGHT + 3);
        x = plain(1, 2);
        due("off by 3, LIMIT 2", x.pass(20, 1000, 1, 1), 1);
        due("right", x.count(1), RIGHT);
        x = plain(500, 5000);
        x.pass(20, 1000, 1, 2); // 3600
        x.set(BASE, 389);
        due("off by 5000, LIMIT 5000, and 400 carried", x.pass(20, 1000, 1, 1), 0);
        due("still off", x.count(1), RIGHT + 5000);
        x.set(BASE, 1); // 400 and 3600
        due("off by 5004, LIMIT 5000", x.pass(20, 1000, 1, 1), 1);
    }

    @Says(where = "Hours", words = "off by more than LIMIT thousandths behind the hour, either way, the clock is set")
    static void limitWhenSlow() {
        WarmRods x = plain(-1, 3);
        due("off by -3, LIMIT 3", x.pass(20, 1000, 1, 1), 0);
        due("still off", x.count(1), RIGHT - 3);
        x = plain(-1, 2);
        due("off by -3, LIMIT 2", x.pass(20, 1000, 1, 1), 1);
        due("right", x.count(1), RIGHT);
        x = plain(-500, 5000);
        x.pass(20, 1000, 1, 2); // -3600
        x.set(BASE, -389);
        due("off by -5000, LIMIT 5000, and -400 carried", x.pass(20, 1000, 1, 1), 0);
        due("still off", x.count(1), RIGHT - 5000);
        x.set(BASE, -1);
        due("off by -5004, LIMIT 5000", x.pass(20, 1000, 1, 1), 1);
    }

    @Says(where = "Hours", words = "off by more than LIMIT thousandths behind the hour")
    static void limitBehindTheHour() {
        WarmRods x = goBy(plain(-2, 3), 0, 1);
        due("off by -7 ahead of the hour", x.count(1), RIGHT - 7);
        x.set(BASE, 2);
        due("off by 0 behind it", x.pass(20, 1000, 1, 1), 0);
        x.set(BASE, 3);
        due("off by 10 behind the next one", x.pass(20, 1000, 1, 1), 1);
    }

    @Says(where = "Hours", words = "off by more than LIMIT thousandths")
    static void greatestAndLeastLimit() {
        due("off by 3, LIMIT 1", plain(1, 1).pass(20, 1000, 1, 1), 1);
        due("off by 0, LIMIT 1", plain(0, 1).pass(20, 1000, 1, 99), 0);
        due("off by 3600 at most, LIMIT 5000", plain(500, 5000).pass(20, 1000, 1, 2), 0);
        due("off by 5400 in the third hour, LIMIT 5000", plain(500, 5000).pass(20, 1000, 1, 3), 1);
    }

    @Says(where = "Hours", words = "The radio tells seconds in an hour, or not. If it does, and the clock is off by more than LIMIT")
    static void withoutTheRadio() {
        WarmRods x = plain(500, 1, 4);
        due("without the radio", x.pass(20, 1000, 0, 99), 0);
        due("off", x.count(1), RIGHT + 183902); // 516 * 99 * 3.6 = 183902.4
        due("never set", x.count(4), 0);
        due("its weight stays", x.count(3), 16);
        due("with the radio", x.pass(20, 1000, 1, 1), 1);
    }

    @Says(where = "Hours", words = "it is off by 0 then, and nothing is carried")
    static void nothingIsCarriedThen() {
        WarmRods fast = plain(1, 2);
        due("fast", fast.pass(20, 1000, 1, 1), 1);
        due("off, fast", fast.count(1), RIGHT);
        due("carried, fast", fast.count(2), 1000);
        WarmRods slow = plain(-1, 2);
        due("slow", slow.pass(20, 1000, 1, 1), 1);
        due("off, slow", slow.count(1), RIGHT);
        due("carried, slow", slow.count(2), 1000);
        WarmRods notSet = plain(1, 3);
        notSet.pass(20, 1000, 1, 1);
        due("carried, if it isn't set", notSet.count(2), 1600);
    }

    @Says(where = "Hours", words = "if the clock was fast, the lightest weight that lies on the tray is taken")
    static void lightestIsTaken() {
        for (int lightest = 0; lightest < 7; lightest++) {
            WarmRods x = plain(500, 1, 7, lightest);
            x.pass(20, 1000, 1, 1);
            due(lightest + " of " + lightest + " and 7", x.count(3), 128);
        }
        WarmRods x = plain(500, 1, 7);
        x.pass(20, 1000, 1, 1);
        due("7 alone", x.count(3), 0);
        x = plain(500, 1, 0, 1, 2, 3, 4, 5, 6, 7);
        x.pass(20, 1000, 1, 1);
        due("0 of all", x.count(3), 254);
        x.pass(20, 1000, 1, 7);
        due("all of them, one in each hour", x.count(3), 0);
    }

    @Says(where = "Hours", words = "if it was slow, the lightest one that does not lie there is laid")
    static void lightestIsLaid() {
        WarmRods x = plain(-500, 1);
        x.pass(20, 1000, 1, 1);
        due("0 of all", x.count(3), 1);
        x.pass(20, 1000, 1, 6);
        due("0 to 6, one in each hour", x.count(3), 127);
        x.pass(20, 1000, 1, 1);
        due("7, the last one", x.count(3), 255);
        for (int lightest = 0; lightest < 7; lightest++) {
            WarmRods y = plain(-500, 1, 0, 1, 2, 3, 4, 5, 6);
            y.weight(lightest);
            y.pass(20, 1000, 1, 1);
            due(lightest + " of " + lightest + " and 7", y.count(3), 127);
        }
    }

    // NOTES.md tells why it is the clock that counts here, and not the hour's rate.
    @Says(where = "Hours", words = "and a weight is laid or taken by rule: if the clock was fast, the lightest weight that lies on the "
        + "tray is taken; if it was slow, the lightest one that does not lie there is laid")
    static void fastOrSlowIsTheClock() {
        for (int rate : new int[] {-2, 0, 2}) {
            WarmRods fast = goBy(plain(500, 1), 0, 1); // 1800
            fast.set(BASE, rate - 8);
            fast.weight(3);
            due("fast by 1800, an hour of " + rate, fast.pass(20, 1000, 1, 1), 1);
            due("the weight is taken", fast.count(3), 0);
            WarmRods slow = goBy(plain(-500, 1), 0, 1); // -1800
            slow.set(BASE, rate - 8);
            slow.weight(3);
            due("slow by 1800, an hour of " + rate, slow.pass(20, 1000, 1, 1), 1);
            due("a weight is laid", slow.count(3), 9);
        }
    }

    @Says(where = "Hours", words = "(nothing, if there is none)")
    static void noWeightToMove() {
        WarmRods fast = plain(500, 1);
        due("fast, with an empty tray", fast.pass(20, 1000, 1, 3), 3);
        due("empty", fast.count(3), 0);
        due("right", fast.count(1), RIGHT);
        WarmRods slow = plain(-500, 1, 0, 1, 2, 3, 4, 5, 6, 7);
        due("slow, with a full tray", slow.pass(20, 1000, 1, 3), 3);
        due("full", slow.count(3), 255);
        due("right", slow.count(1), RIGHT);
    }

    // ---- the log

    @Says(where = "Hours", words = "The log has the latest 48 hours.")
    static void emptyLog() {
        WarmRods x = new WarmRods();
        due("hours in it", x.count(5), 0);
        due("hour(0, 0)", x.hour(0, 0), NO_SUCH);
        x.pass(-20, 800, 0, 1);
        due("hours in it then", x.count(5), 1);
        due("hour(0, 0) then", x.hour(0, 0), 80);
        due("hour(1, 0) then", x.hour(1, 0), NO_SUCH);
    }

    @Says(where = "Hours", words = "The log has the latest 48 hours.")
    static void fullLog() {
        WarmRods x = new WarmRods();
        x.pass(50, 1000, 0, 1);
        x.pass(30, 1000, 0, 46);
        due("47 hours", x.count(5), 47);
        due("no hour 47", x.hour(47, 0), NO_SUCH);
        x.pass(10, 1000, 0, 1);
        due("48 hours", x.count(5), 48);
        due("the oldest one is there", x.hour(47, 0), 150);
        due("no hour 48", x.hour(48, 0), NO_SUCH);
        x.pass(-20, 1000, 0, 1);
        due("48 of 49 hours", x.count(5), 48);
        due("the oldest one is gone", x.hour(47, 0), 130);
        due("no hour 48 of 49", x.hour(48, 0), NO_SUCH);
        due("the latest one", x.hour(0, 0), 80);
        due("the one ahead of it", x.hour(1, 0), 110);
    }

    @Says(where = "Hours", words = "The log has the latest 48 hours.")
    static void logGoesRound() {
        WarmRods x = new WarmRods();
        for (int hour = 0; hour < 146; hour++) { // three times round, and two more
            x.pass(hour % 71 - 20, 800 + hour, 0, 1);
        }
        for (int ago = 0; ago < 48; ago++) {
            due("heat of hour " + ago, x.hour(ago, 0), 80 + (145 - ago) % 71);
            due("air of hour " + ago, x.hour(ago, 1), 945 - ago);
        }
        due("no hour 48", x.hour(48, 1), NO_SUCH);
        due("hours in it", x.count(5), 48);
        due("99 at a time", goBy(x, 0, 99).count(5), 48);
        due("the oldest of them", x.hour(47, 1), 1000);
    }
}
