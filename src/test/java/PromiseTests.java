/** For each promise of the document: ordinary inputs, the edges that it names, and wrong inputs. */
public final class PromiseTests {
    private static final int NO_SUCH = -1, BAD_VALUE = -2, BAD_TEXT = -3, TOO_MANY = -4, NOT_POSSIBLE = -5, NONE = -6;
    private static final int MIN = Integer.MIN_VALUE, MAX = Integer.MAX_VALUE;
    private static final int RIGHT = 1000000000;

    private static int wrong = 0;

    private static void due(String what, long got, long want) {
        if (got != want) {
            wrong++;
            System.out.println(what + " answered " + got + ", due is " + want);
        }
    }

    public static void main(String[] args) {
        constants();
        newObject();
        set();
        weight();
        passDrift();
        passWithRadio();
        passWrong();
        zero();
        hour();
        count();
        meanRate();
        ofLog();
        rate();
        bestWeights();
        offIn();
        replay();
        coolest();
        put();
        wipe();
        fault();
        carryOut();
        undo();
        saveAndRestore();
        errorsChangeNothing();
        System.out.println(wrong == 0 ? "all promises hold" : wrong + " answers are not as due");
        if (wrong != 0) {
            System.exit(1);
        }
    }

    /** Appends a text to the pad, eight characters at a time. */
    private static void write(WarmRods x, String text) {
        for (int from = 0; from < text.length(); from += 8) {
            String part = text.substring(from, Math.min(from + 8, text.length()));
            x.put(coded(part));
        }
    }

    private static long coded(String part) {
        long characters = 0;
        for (char c : part.toCharArray()) {
            characters = characters << 8 | c;
        }
        return characters;
    }

    private static int faultOf(String text) {
        WarmRods x = new WarmRods();
        write(x, text);
        due("length of the pad of " + text, x.count(11), text.length());
        return x.fault();
    }

    private static int carriedOut(WarmRods x, String text) {
        write(x, text);
        return x.carryOut();
    }

    private static long meanOf(double sum, double hours) {
        return Double.doubleToLongBits(sum / hours);
    }

    private static void constants() {
        due("NO_SUCH", WarmRods.NO_SUCH, -1);
        due("BAD_VALUE", WarmRods.BAD_VALUE, -2);
        due("BAD_TEXT", WarmRods.BAD_TEXT, -3);
        due("TOO_MANY", WarmRods.TOO_MANY, -4);
        due("NOT_POSSIBLE", WarmRods.NOT_POSSIBLE, -5);
        due("NONE", WarmRods.NONE, -6);
        due("ROD", WarmRods.ROD, 0);
        due("AIR", WarmRods.AIR, 1);
        due("BASE", WarmRods.BASE, 2);
        due("LIMIT", WarmRods.LIMIT, 3);
    }

    private static void newObject() {
        WarmRods x = new WarmRods();
        long[] first = {0, RIGHT, 1000, 0, 0, 0, 0, 1012, 1015, 1000, 1500, 0, 0};
        for (int what = 0; what < first.length; what++) {
            due("1: count(" + what + ")", x.count(what), first[what]);
        }
        due("1: hour(0, 0)", x.hour(0, 0), NO_SUCH);
        due("1: undo()", x.undo(), NOT_POSSIBLE);
        due("1: restore(0)", x.restore(0), NOT_POSSIBLE);
        due("1: restore(1)", x.restore(1), NOT_POSSIBLE);
        WarmRods other = new WarmRods();
        x.weight(3);
        x.pass(30, 1000, 0, 2);
        due("1: another object's tray", other.count(3), 0);
        due("1: another object's hours", other.count(0), 0);
    }

    private static void set() {
        int[] least = {0, 0, -500, 1};
        int[] greatest = {99, 99, 500, 5000};
        int[] first = {12, 15, 0, 500};
        for (int setting = 0; setting < 4; setting++) {
            WarmRods x = new WarmRods();
            due("2: below " + setting, x.set(setting, least[setting] - 1), BAD_VALUE);
            due("2: above " + setting, x.set(setting, greatest[setting] + 1), BAD_VALUE);
            due("2: far below " + setting, x.set(setting, MIN), BAD_VALUE);
            due("2: far above " + setting, x.set(setting, MAX), BAD_VALUE);
            due("2: errors record nothing", x.count(12), 0);
            due("2: least of " + setting, x.set(setting, least[setting]), first[setting] + 1000);
            due("2: greatest of " + setting, x.set(setting, greatest[setting]), least[setting] + 1000);
            due("2: told by count", x.count(7 + setting), greatest[setting] + 1000);
            due("2: same again", x.set(setting, greatest[setting]), greatest[setting] + 1000);
            due("2: each is a change", x.count(12), 3);
        }
        WarmRods x = new WarmRods();
        due("2: no setting 4", x.set(4, 1), BAD_VALUE);
        due("2: no setting -1", x.set(-1, 1), BAD_VALUE);
        due("2: no setting MIN", x.set(MIN, 1), BAD_VALUE);
        due("2: no setting MAX", x.set(MAX, 1), BAD_VALUE);
    }

    private static void weight() {
        WarmRods x = new WarmRods();
        int set = 0;
        for (int weight = 7; weight >= 0; weight--) {
            due("3: laid", x.weight(weight), 1);
            set += 1 << weight;
            due("3: the set", x.count(3), set);
            due("3: what it gives", x.rate(20, 1000), 100000 + set);
        }
        due("3: taken", x.weight(5), 0);
        due("3: without 5", x.count(3), 255 - 32);
        due("3: laid again", x.weight(5), 1);
        due("3: 8", x.weight(8), NO_SUCH);
        due("3: -1", x.weight(-1), NO_SUCH);
        due("3: 32", x.weight(32), NO_SUCH);
        due("3: MIN", x.weight(MIN), NO_SUCH);
        due("3: MAX", x.weight(MAX), NO_SUCH);
        due("3: unchanged", x.count(3), 255);
    }

    private static void passDrift() {
        WarmRods x = new WarmRods();
        x.set(WarmRods.BASE, 1);
        // 3600 an hour: 3 thousandths, and 600 left; then 4200, 4 and 200; then 3800; then 4400; then 4000
        int[] off = {3, 7, 10, 14, 18};
        int[] carried = {600, 200, 800, 400, 0};
        for (int i = 0; i < off.length; i++) {
            due("4: pass", x.pass(20, 1000, 0, 1), 0);
            due("4: off", x.count(1), RIGHT + off[i]);
            due("4: carried", x.count(2), 1000 + carried[i]);
        }
        x = new WarmRods();
        x.set(WarmRods.BASE, -1);
        for (int i = 0; i < off.length; i++) {
            x.pass(20, 1000, 0, 1);
            due("4: off, slow", x.count(1), RIGHT - off[i]);
            due("4: carried, slow", x.count(2), 1000 - carried[i]);
        }
        x = new WarmRods();
        x.set(WarmRods.BASE, -1);
        x.pass(20, 1000, 0, 1);
        x.set(WarmRods.BASE, 1);
        x.pass(20, 1000, 0, 1); // -600 and 3600 are 3000
        due("4: off, slow then fast", x.count(1), RIGHT);
        due("4: carried, slow then fast", x.count(2), 1000);
        due("4: the coldest hour", x.pass(-20, 800, 0, 1), 0); // 781: off by 2811 and 600 then
        due("4: the hottest ones", x.pass(50, 1200, 1, 99), 98); // -659: off by 439, then set each hour
        due("4: hours", x.count(0), 102);
        due("4: hours with the radio", x.count(6), 99);
        due("4: is a change", x.count(12), 6);
    }

    private static void passWithRadio() {
        WarmRods x = new WarmRods();
        x.set(WarmRods.LIMIT, 36);
        x.set(WarmRods.BASE, 10); // 36 thousandths an hour
        due("4: at the limit", x.pass(20, 1000, 1, 1), 0);
        due("4: off by the limit", x.count(1), RIGHT + 36);
        due("4: beyond, without the radio", x.pass(20, 1000, 0, 1), 0);
        due("4: beyond", x.pass(20, 1000, 1, 1), 1);
        due("4: set", x.count(1), RIGHT);
        due("4: no weight to take", x.count(3), 0);
        x.weight(7);
        x.weight(2);
        due("4: fast by 142, by 138, by 10", x.pass(20, 1000, 1, 3), 2);
        due("4: both are taken", x.count(3), 0);
        due("4: hour 0 without weights", x.hour(0, 6), 0);
        due("4: hour 1 with 7", x.hour(1, 6), 128);
        due("4: hour 2 with 7 and 2", x.hour(2, 6), 132);

        x = new WarmRods();
        x.set(WarmRods.LIMIT, 1);
        x.set(WarmRods.BASE, -500);
        x.weight(1);
        due("4: slow", x.pass(20, 1000, 1, 1), 1);
        due("4: 0 is laid", x.count(3), 3);
        due("4: slow again", x.pass(20, 1000, 1, 1), 1);
        due("4: 2 is laid", x.count(3), 7);
        due("4: all are laid, and no more", x.pass(20, 1000, 1, 20), 20);
        due("4: all", x.count(3), 255);
        due("4: how often", x.count(4), 22);

        // the limit holds on both sides
        x = new WarmRods();
        x.set(WarmRods.LIMIT, 36);
        x.set(WarmRods.BASE, -10);
        due("4: slow by the limit", x.pass(20, 1000, 1, 1), 0);
        due("4: slow by more", x.pass(20, 1000, 1, 1), 1);

        // of 0 and 1 the lighter one is taken first
        x = new WarmRods();
        x.set(WarmRods.LIMIT, 1);
        x.weight(0);
        x.weight(1);
        due("4: fast by 3", x.pass(20, 1000, 1, 1), 1);
        due("4: 0 is taken", x.count(3), 2);
        due("4: fast by 2", x.pass(20, 1000, 1, 1), 1);
        due("4: 1 is taken", x.count(3), 0);

        // being set carries nothing: -1 leaves -600, which would show
        x = new WarmRods();
        x.set(WarmRods.LIMIT, 1);
        x.set(WarmRods.BASE, -1);
        due("4: slow by 3", x.pass(20, 1000, 1, 1), 1);
        due("4: nothing carried", x.count(2), 1000);
        due("4: laid", x.count(3), 1);

        // the way that counts is that of the clock, not of the hour's rate
        x = new WarmRods();
        x.set(WarmRods.BASE, -500);
        x.pass(20, 1000, 0, 2); // off by -3600
        x.set(WarmRods.BASE, 100);
        x.weight(6);
        due("4: slow clock in a fast hour", x.pass(20, 1000, 1, 1), 1);
        due("4: lays", x.count(3), 65);
        due("4: off by, ahead of being set", x.hour(0, 4), RIGHT - 3600 + 590); // 164 * 3600
    }

    private static void passWrong() {
        int[][] bad = {{-21, 1000, 0, 1}, {51, 1000, 0, 1}, {20, 799, 0, 1}, {20, 1201, 0, 1}, {20, 1000, -1, 1},
            {20, 1000, 2, 1}, {20, 1000, 0, 0}, {20, 1000, 0, -1}, {20, 1000, 0, 100}, {MIN, 1000, 0, 1},
            {MAX, 1000, 0, 1}, {20, MIN, 0, 1}, {20, MAX, 0, 1}, {20, 1000, MIN, 1}, {20, 1000, MAX, 1},
            {20, 1000, 0, MIN}, {20, 1000, 0, MAX}};
        WarmRods x = new WarmRods();
        for (int[] b : bad) {
            due("4: wrong", x.pass(b[0], b[1], b[2], b[3]), BAD_VALUE);
        }
        due("4: nothing has gone by", x.count(0), 0);
        due("4: nothing recorded", x.count(12), 0);
        for (int i = 0; i < 100; i++) {
            x.pass(20, 1000, 0, 99);
        }
        due("4: up to 9998", x.pass(20, 1000, 0, 98), 0);
        due("4: two more", x.pass(20, 1000, 0, 2), NOT_POSSIBLE);
        due("4: bad first", x.pass(20, 1000, 2, 99), BAD_VALUE);
        due("4: one more", x.pass(20, 1000, 0, 1), 0);
        due("4: none more", x.pass(20, 1000, 0, 1), NOT_POSSIBLE);
        due("4: all hours", x.count(0), 9999);
        due("4: the log", x.count(5), 48);
        due("4: what if goes on", x.offIn(21, 1000), 12);
        x.undo();
        due("4: undone", x.pass(20, 1000, 0, 1), 0);
    }

    private static void zero() {
        WarmRods x = new WarmRods();
        due("5: right", x.zero(), RIGHT);
        due("5: a change", x.count(12), 1);
        x.weight(0);
        x.pass(20, 1000, 0, 1);
        due("5: off by 3", x.zero(), RIGHT + 3);
        due("5: right again", x.count(1), RIGHT);
        due("5: nothing carried", x.count(2), 1000);
        due("5: weights stay", x.count(3), 1);
        due("5: not by the radio", x.count(4), 0);
        x.set(WarmRods.BASE, -3);
        x.pass(20, 1000, 0, 1); // -7200
        due("5: off by -7", x.zero(), RIGHT - 7);
    }

    private static void hour() {
        WarmRods x = new WarmRods();
        x.set(WarmRods.LIMIT, 100);
        x.weight(4);
        x.pass(-20, 800, 1, 1); // 12 * 40 + 300 + 16 = 796, 2865 and 600 left
        x.pass(50, 1200, 0, 1); // -360 - 300 + 0 = -660, without the weight 4: -2376
        long[] latest = {150, 1200, 0, 100000 - 660, RIGHT - 2376, 0, 0};
        long[] ahead = {80, 800, 1, 100796, RIGHT + 2865, 1, 16};
        for (int what = 0; what < 7; what++) {
            due("6: hour(0, " + what + ")", x.hour(0, what), latest[what]);
            due("6: hour(1, " + what + ")", x.hour(1, what), ahead[what]);
        }
        due("6: no hour 2", x.hour(2, 0), NO_SUCH);
        due("6: no hour -1", x.hour(-1, 0), NO_SUCH);
        due("6: no hour MIN", x.hour(MIN, 0), NO_SUCH);
        due("6: no hour MAX", x.hour(MAX, 0), NO_SUCH);
        due("6: NO_SUCH first", x.hour(2, 7), NO_SUCH);
        due("6: NO_SUCH first, -1", x.hour(-1, -1), NO_SUCH);
        due("6: no what 7", x.hour(1, 7), BAD_VALUE);
        due("6: no what -1", x.hour(0, -1), BAD_VALUE);
        due("6: no what MIN", x.hour(0, MIN), BAD_VALUE);
        due("6: no what MAX", x.hour(0, MAX), BAD_VALUE);
        for (int i = 0; i < 70; i++) {
            x.pass(i - 20, 800 + i, 0, 1);
            due("6: the log grows to 48", x.count(5), Math.min(48, i + 3));
        }
        for (int ago = 0; ago < 48; ago++) {
            due("6: heat in the full log", x.hour(ago, 0), 100 + 49 - ago);
            due("6: air in the full log", x.hour(ago, 1), 869 - ago);
        }
        due("6: no hour 48", x.hour(48, 0), NO_SUCH);
    }

    private static void count() {
        WarmRods x = new WarmRods();
        x.set(0, 10);
        x.set(1, 20);
        x.set(2, -30);
        x.set(3, 40);
        x.weight(2);
        x.pass(21, 990, 1, 1); // -30 - 10 + 20 + 4 = -16: -57600, beyond 40
        x.pass(20, 1000, 0, 2); // -30 + 5 = -25: -90000 each
        x.pass(20, 1001, 0, 1); // -30 - 2 + 5 = -27: -97200
        write(x, "abc");
        long[] want = {4, RIGHT - 277, 1000 - 200, 5, 1, 4, 1, 1010, 1020, 970, 1040, 3, 6};
        for (int what = 0; what < want.length; what++) {
            due("7: count(" + what + ")", x.count(what), want[what]);
        }
        due("7: -1", x.count(-1), BAD_VALUE);
        due("7: 13", x.count(13), BAD_VALUE);
        due("7: MIN", x.count(MIN), BAD_VALUE);
        due("7: MAX", x.count(MAX), BAD_VALUE);
    }

    private static void meanRate() {
        WarmRods x = new WarmRods();
        due("8: no hours", x.meanRate(), 0L);
        x.pass(20, 1000, 0, 1);
        due("8: mean 0", x.meanRate(), 0L);
        x.weight(0);
        x.pass(20, 1000, 0, 2);
        due("8: two thirds", x.meanRate(), meanOf(2, 3));
        x.pass(20, 1000, 0, 44);
        due("8: 46 of 47", x.meanRate(), meanOf(46, 47));
        x.set(2, -46);
        x.pass(20, 1000, 0, 1);
        due("8: 1 of 48", x.meanRate(), meanOf(1, 48));
        x.pass(20, 1000, 0, 1);
        due("8: -44 of 48, the oldest gone", x.meanRate(), meanOf(-44, 48));
        x.set(0, 99);
        x.set(1, 99);
        x.set(2, 500);
        x.pass(-20, 800, 0, 99);
        due("8: greatest", x.meanRate(), meanOf(6441, 1));
        due("8: 4.0 told by its bits", meanOfFours(), 0x4010000000000000L);
        due("8: -4.5 told by its bits", meanOfMinusFourAndAHalf(), 0xC012000000000000L);
    }

    private static long meanOfFours() {
        WarmRods x = new WarmRods();
        x.weight(2);
        x.pass(20, 1000, 0, 3);
        return x.meanRate();
    }

    private static long meanOfMinusFourAndAHalf() {
        WarmRods x = new WarmRods();
        x.set(2, -4);
        x.pass(20, 1000, 0, 1);
        x.set(2, -5);
        x.pass(20, 1000, 0, 1);
        return x.meanRate();
    }

    private static void ofLog() {
        WarmRods x = new WarmRods();
        for (int what = 0; what < 5; what++) {
            due("9: without hours", x.ofLog(what), NONE);
        }
        due("9: -1, without hours", x.ofLog(-1), BAD_VALUE);
        due("9: 5, without hours", x.ofLog(5), BAD_VALUE);
        x.weight(1);
        x.set(3, 5);
        x.pass(20, 1000, 1, 3); // rates 2, 0, 0: 7200 is beyond 5, and takes the weight
        x.weight(1);
        x.pass(20, 1000, 0, 1); // 2
        x.pass(21, 1000, 0, 1); // -10
        x.weight(0);
        x.weight(1);
        x.pass(19, 1000, 0, 1); // 13
        long[] want = {100013, 99990, 3, 1, 3};
        for (int what = 0; what < 5; what++) {
            due("9: ofLog(" + what + ")", x.ofLog(what), want[what]);
        }
        due("9: 5", x.ofLog(5), BAD_VALUE);
        due("9: -1", x.ofLog(-1), BAD_VALUE);
        due("9: MIN", x.ofLog(MIN), BAD_VALUE);
        due("9: MAX", x.ofLog(MAX), BAD_VALUE);
        x.pass(20, 1000, 0, 47); // 1 each; one hour of 13 is left
        due("9: greatest, at the far end", x.ofLog(0), 100013);
        due("9: least", x.ofLog(1), 100001);
        due("9: fast", x.ofLog(2), 48);
        due("9: no set hour is left", x.ofLog(3), 0);
        due("9: all trays alike", x.ofLog(4), 0);
        x.pass(21, 1000, 0, 1);
        due("9: greatest, gone", x.ofLog(0), 100001);
        due("9: least, latest", x.ofLog(1), 99989);
        ofShortLogs();
    }

    private static void ofShortLogs() {
        WarmRods x = new WarmRods();
        x.pass(23, 1000, 0, 1); // -36
        x.pass(21, 1000, 0, 1); // -12
        x.pass(22, 1000, 0, 1); // -24
        due("9: greatest of three slow ones", x.ofLog(0), 99988);
        due("9: least of three slow ones", x.ofLog(1), 99964);
        x.pass(18, 1000, 0, 1);
        x.pass(19, 1000, 0, 1);
        due("9: greatest, the second", x.ofLog(0), 100024);
        x = new WarmRods();
        x.pass(19, 1000, 0, 3);
        due("9: least of fast ones", x.ofLog(1), 100012);
        x.weight(4);
        x.pass(20, 1000, 0, 47); // the oldest hour has no weight, all others have one
        due("9: one other tray", x.ofLog(4), 1);
        x.pass(20, 1000, 0, 1);
        due("9: the other tray is gone", x.ofLog(4), 0);
        x.weight(4);
        x.pass(20, 1000, 0, 1);
        due("9: the latest has another one", x.ofLog(4), 1);
    }

    private static void rate() {
        WarmRods x = new WarmRods();
        due("10: first", x.rate(20, 1000), 100000);
        due("10: -20, 800", x.rate(-20, 800), 100000 + 480 + 300);
        due("10: 50, 1200", x.rate(50, 1200), 100000 - 360 - 300);
        due("10: toward 0 above", x.rate(20, 1003), 100000 - 4);
        due("10: toward 0 below", x.rate(20, 997), 100000 + 4);
        x.weight(7);
        x.set(2, -100);
        due("10: with a weight and BASE", x.rate(22, 1000), 100000 - 100 - 24 + 128);
        due("10: heat -21", x.rate(-21, 1000), BAD_VALUE);
        due("10: heat 51", x.rate(51, 1000), BAD_VALUE);
        due("10: air 799", x.rate(20, 799), BAD_VALUE);
        due("10: air 1201", x.rate(20, 1201), BAD_VALUE);
        due("10: heat MIN", x.rate(MIN, 1000), BAD_VALUE);
        due("10: air MAX", x.rate(20, MAX), BAD_VALUE);
        due("10: changes nothing", x.count(12), 2);
    }

    private static void bestWeights() {
        WarmRods x = new WarmRods();
        x.weight(3); // the weights of now don't matter
        due("11: 24 for -24", x.bestWeights(22, 1000, 0), 24);
        due("11: to 0", x.bestWeights(22, 1000, 1), 100000);
        due("11: none for 0", x.bestWeights(20, 1000, 0), 0);
        due("11: none for a fast hour", x.bestWeights(10, 1000, 0), 0);
        due("11: its rate", x.bestWeights(10, 1000, 1), 100120);
        x.set(2, -1);
        due("11: the lightest for -1", x.bestWeights(20, 1000, 0), 1);
        x.set(2, -255);
        due("11: all for -255", x.bestWeights(20, 1000, 0), 255);
        x.set(2, -500);
        due("11: all for -500", x.bestWeights(20, 1000, 0), 255);
        due("11: -245 is left", x.bestWeights(20, 1000, 1), 99755);
        due("11: tray stays", x.count(3), 8);
        int[][] bad = {{-21, 1000, 0}, {51, 1000, 0}, {20, 799, 0}, {20, 1201, 0}, {20, 1000, -1}, {20, 1000, 2},
            {MIN, 1000, 0}, {20, MAX, 0}, {20, 1000, MIN}, {20, 1000, MAX}};
        for (int[] b : bad) {
            due("11: wrong", x.bestWeights(b[0], b[1], b[2]), BAD_VALUE);
        }
    }

    private static void offIn() {
        WarmRods x = new WarmRods();
        due("12: never", x.offIn(20, 1000), NONE);
        x.weight(0); // 3.6 an hour
        due("12: 500 is not more", x.offIn(20, 1000), 140); // 139 hours: 500.4, told as 500
        x.set(3, 499);
        due("12: 499", x.offIn(20, 1000), 139);
        x.set(3, 5000);
        due("12: 5000 takes 1390", x.offIn(20, 1000), 1390); // 5004
        due("12: fast hours", x.offIn(-20, 800), 2); // 781: 2811 an hour
        due("12: slow hours", x.offIn(50, 1200), 3); // -659: -2372 an hour, 4744 in two
        x.pass(20, 1000, 0, 99); // 356.4
        x.set(3, 356);
        due("12: with what is carried", x.offIn(20, 1000), 1);
        x.set(3, 355);
        due("12: it is", x.offIn(20, 1000), 0);
        due("12: it is, whatever comes", x.offIn(50, 1200), 0);
        due("12: heat -21", x.offIn(-21, 1000), BAD_VALUE);
        due("12: heat 51", x.offIn(51, 1000), BAD_VALUE);
        due("12: air 799", x.offIn(20, 799), BAD_VALUE);
        due("12: air 1201", x.offIn(20, 1201), BAD_VALUE);
        due("12: changes nothing", x.count(1), RIGHT + 356);
        due("12: changes no hours", x.count(0), 99);
        due("12: changes no carry", x.count(2), 1400);
        x.undo();
        due("12: slow", slowClock().offIn(20, 1000), 0);
        farOff();
    }

    private static WarmRods slowClock() {
        WarmRods x = new WarmRods();
        x.set(2, -500);
        x.pass(20, 1000, 0, 1);
        return x;
    }

    /** The longest ways: from -5000 to 5000 with 1 millionth it takes 2778 hours, with none for ever. */
    private static void farOff() {
        WarmRods x = new WarmRods();
        x.set(3, 5000);
        x.set(2, -500);
        x.pass(20, 1000, 0, 2);
        x.set(2, -388);
        x.pass(20, 1000, 0, 1); // -3600 and -1396.8
        x.set(2, 1);
        due("12: from -4996.8 to above 5000", x.offIn(20, 1000), 2778); // -4996.8 + 10000.8 = 5004
        x.set(2, 0);
        due("12: stands", x.offIn(20, 1000), NONE);
    }

    private static void replay() {
        WarmRods x = new WarmRods();
        due("13: no hours", x.replay(), RIGHT);
        x.pass(20, 1000, 1, 2);
        x.pass(21, 1000, 1, 1);
        x.pass(20, 1010, 1, 1);
        x.zero();
        due("13: as it was", x.replay(), RIGHT - 97); // -27000 * 3.6 = -97.2
        x.weight(5);
        due("13: with a weight", x.replay(), RIGHT + 363); // (128 - 27) * 3.6 = 363.6
        x.set(0, 0);
        x.set(1, 10);
        x.set(3, 1);
        due("13: with the settings of now", x.replay(), RIGHT + 424); // (128 - 10) * 3.6 = 424.8
        due("13: changes nothing", x.count(1), RIGHT);
        due("13: changes no tray", x.count(3), 32);
        due("13: changes no hours", x.count(0), 4);
        x.pass(20, 1000, 0, 46);
        due("13: the latest 48", x.replay(), RIGHT + 5493); // (48 * 32 - 10) * 3.6 = 5493.6
    }

    private static void coolest() {
        WarmRods x = new WarmRods();
        due("14: 20", x.coolest(1000), 120);
        due("14: 21 for 9 more", x.coolest(994), 121);
        due("14: 19 for -12", x.coolest(1008), 119);
        due("14: 20 for -11", x.coolest(1007), 120);
        due("14: 45 for 300", x.coolest(800), 145);
        due("14: -5 for -300", x.coolest(1200), 95);
        x.set(2, 61);
        due("14: NONE", x.coolest(800), NONE);
        x.set(2, 60);
        due("14: the hottest", x.coolest(800), 150);
        x.weight(0);
        due("14: the weights count", x.coolest(800), NONE);
        x.set(2, -500);
        due("14: the coolest", x.coolest(1000), 80);
        due("14: air 799", x.coolest(799), BAD_VALUE);
        due("14: air 1201", x.coolest(1201), BAD_VALUE);
        due("14: air MIN", x.coolest(MIN), BAD_VALUE);
        due("14: air MAX", x.coolest(MAX), BAD_VALUE);
    }

    private static void put() {
        WarmRods x = new WarmRods();
        long[] bad = {0L, -1L, Long.MIN_VALUE, Long.MAX_VALUE, 32L, 127L, 255L, coded("ab") << 8, coded("a") << 56,
            coded("a") << 16 | 'b', 1L << 63 | 'b', 1L << 16 | 'b', coded("ab") << 8 | 32, 32L << 56 | coded("abcdefg"),
            127L << 8 | 'a', 31L};
        for (long b : bad) {
            due("15: wrong " + Long.toHexString(b), x.put(b), BAD_VALUE);
        }
        due("15: nothing there", x.count(11), 0);
        due("15: one", x.put('!'), 1);
        due("15: the last sign", x.put('~'), 2);
        due("15: eight", x.put(coded("abcdefgh")), 10);
        x.wipe();
        due("15: in their order", x.put(coded("z;w1;b-2")), 8);
        due("15: carried out", x.carryOut(), 3);
        due("15: w1", x.count(3), 2);
        due("15: b-2", x.count(9), 998);
        for (int i = 1; i < 10; i++) {
            due("15: up to 72", x.put(coded("12345678")), 8 * i);
        }
        x.put(coded("1234567"));
        due("15: 81", x.put(coded("12")), TOO_MANY);
        due("15: 79 still", x.count(11), 79);
        due("15: 80", x.put('1'), 80);
        due("15: full", x.put('1'), TOO_MANY);
        due("15: bad ahead of full", x.put(0L), BAD_VALUE);
        due("15: no change", x.count(12), 1);
    }

    private static void wipe() {
        WarmRods x = new WarmRods();
        due("16: empty", x.wipe(), 0);
        x.put(coded("zz"));
        due("16: two", x.wipe(), 2);
        due("16: empty then", x.count(11), 0);
        due("16: no text", x.fault(), 0);
        due("16: no change", x.count(12), 0);
        x.put(coded("z"));
        due("16: new text", x.fault(), NONE);
    }

    private static void fault() {
        String[] good = {"z", "z;z", "w0", "w7", "b0", "b-0", "b-1", "b9999", "b-9999", "h20,1000", "h-5,0",
            "h20,1000r", "h20,1000*2", "h20,1000r*2", "h9999,9999r*9999", "h0,0*0", "h0,0r*0",
            "z;w3;b-20;h1,2;h1,2r;h1,2*3;h-1,2r*3;z",
            "z;z;z;z;z;z;z;z;z;z;z;z;z;z;z;z;z;z;z;z;z;z;z;z;z;z;z;z;z;z;z;z;z;z;z;z;z;z;z;w1"};
        for (String text : good) {
            due("17: " + text, faultOf(text), NONE);
        }
        String[] early = {"", "h", "h-", "h5", "h5,", "h0,", "h5,1*", "h5,1r*", "w", "b", "b-", "z;", "z;w", "w1;", "b1;",
            "h1,1;", "h1,1r;"};
        for (String text : early) {
            due("17: ends early: " + text, faultOf(text), text.length());
        }
        Object[][] faults = {{"x", 0}, {";", 0}, {"1", 0}, {"zz", 1}, {"z;;", 2}, {"w8", 1}, {"w9", 1}, {"w-1", 1},
            {"wx", 1}, {"w11", 2}, {"w0z", 2}, {"b+1", 1}, {"b--1", 2}, {"b00", 2}, {"b01", 2}, {"b-00", 3},
            {"b99999", 5}, {"b10000", 5}, {"b-10000", 6}, {"b1r", 2}, {"b1*2", 2}, {"b,1", 1}, {"h,1", 1}, {"h1;", 2},
            {"h1,;", 3}, {"h1,-1", 3}, {"h01,1", 2}, {"h1,01", 4}, {"h1,1*01", 6}, {"h1,1*-1", 5}, {"h1,1*r", 5},
            {"h1,1rr", 5}, {"h1,1*2r", 6}, {"h1,1*2*2", 6}, {"h12345,1", 5}, {"h1,12345", 7}, {"h1,1*12345", 9},
            {"h1,1,1", 4}, {"h1r,1", 2}, {"h1,r", 3}, {"h1,*", 3}, {"H1,1", 0}, {"z;x;y", 2}, {"z,z", 1}, {"h1,1r5", 5},
            {"z;w1;b2;q", 8}, {"h/,1", 1}, {"h:,1", 1}, {"b/", 1}, {"b:", 1}};
        for (Object[] f : faults) {
            due("17: " + f[0], faultOf((String) f[0]), (Integer) f[1]);
        }
        WarmRods x = new WarmRods();
        write(x, "z;zz");
        due("17: twice", x.fault() + x.fault(), 6);
        due("17: stays", x.count(11), 4);
    }

    private static void carryOut() {
        WarmRods x = new WarmRods();
        due("18: empty", x.carryOut(), BAD_TEXT);
        due("18: a fault", carriedOut(x, "z;"), BAD_TEXT);
        due("18: stays", x.count(11), 2);
        due("18: no change", x.count(12), 0);
        x.wipe();
        due("18: all kinds", carriedOut(x, "b-3;w2;h19,990*2;h20,1000r"), 4);
        due("18: emptied", x.count(11), 0);
        due("18: one change", x.count(12), 1);
        due("18: hours", x.count(0), 3);
        due("18: hours with the radio", x.count(6), 1);
        due("18: off", x.count(1), RIGHT + 205); // (12 + 15 + 1) * 7.2 + 3.6 = 205.2
        due("18: a rate", x.hour(1, 3), 100028);
        due("18: z", carriedOut(x, "z"), 1);
        due("18: right", x.count(1), RIGHT);
        due("18: hours at a time", carriedOut(x, "h-20,800*99"), 1);
        due("18: 102", x.count(0), 102);
        due("18: taken", carriedOut(x, "w2;w2;w2;w0"), 4);
        due("18: the set", x.count(3), 1);
        for (String bad : new String[] {"b501", "b-501", "h51,1000", "h-21,1000", "h20,799", "h20,1201", "h20,1000*0",
            "h20,1000*100", "h20,1000r*9999"}) {
            WarmRods y = new WarmRods();
            due("18: up to " + bad, carriedOut(y, "w1;" + bad + ";w2"), 1);
            due("18: not behind " + bad, y.count(3), 2);
            due("18: emptied all the same", y.count(11), 0);
            due("18: none of " + bad, carriedOut(y, bad), 0);
            due("18: recorded all the same", y.count(12), 2);
            due("18: undone", y.undo(), 1);
            due("18: still w1", y.count(3), 2);
            due("18: undone whole", y.undo(), 0);
            due("18: no w1", y.count(3), 0);
        }
        fullOfHours();
    }

    private static void fullOfHours() {
        WarmRods x = new WarmRods();
        for (int i = 0; i < 101; i++) {
            x.pass(20, 1000, 0, 99 - i / 101);
        }
        x.undo();
        due("18: the last hours", carriedOut(x, "h20,1000*98;h20,1000;h20,1000"), 2);
        due("18: 9999", x.count(0), 9999);
        due("18: is a change", x.count(12), 6);
    }

    private static void undo() {
        WarmRods x = new WarmRods();
        for (int weight = 0; weight < 8; weight++) {
            x.weight(weight);
            due("19: recorded", x.count(12), Math.min(6, weight + 1));
        }
        for (int left = 5; left >= 0; left--) {
            due("19: undo", x.undo(), left);
            due("19: the tray", x.count(3), (1 << left + 2) - 1);
        }
        due("19: no more", x.undo(), NOT_POSSIBLE);
        due("19: two stay", x.count(3), 3);
        x.weight(7);
        due("19: recorded anew", x.count(12), 1);
        due("19: undone anew", x.undo(), 0);
        due("19: again two", x.count(3), 3);
        for (int base = 1; base < 9; base++) {
            x.set(2, base);
        }
        for (int left = 5; left >= 0; left--) {
            due("19: undo anew", x.undo(), left);
            due("19: the base", x.count(9), 1002 + left);
        }
        undoBringsAllBack();
        undoLeavesThePad();
    }

    private static void undoBringsAllBack() {
        WarmRods x = new WarmRods();
        x.set(3, 30);
        x.weight(1);
        x.pass(19, 1005, 1, 60);
        x.pass(19, 1002, 0, 2);
        due("19: off and carried then", x.count(1) != RIGHT && x.count(2) != 1000 ? 1 : 0, 1);
        String before = told(x);
        x.pass(25, 900, 1, 50);
        due("19: differs", told(x).equals(before) ? 1 : 0, 0);
        x.undo();
        due("19: all of pass", told(x).equals(before) ? 1 : 0, 1);
        x.zero();
        x.undo();
        due("19: all of zero", told(x).equals(before) ? 1 : 0, 1);
        x.set(0, 99);
        x.undo();
        due("19: all of set", told(x).equals(before) ? 1 : 0, 1);
        carriedOut(x, "b5;w0;h1,1000r*50;z");
        x.undo();
        due("19: all of carryOut", told(x).equals(before) ? 1 : 0, 1);
    }

    private static void undoLeavesThePad() {
        WarmRods x = new WarmRods();
        x.weight(0);
        x.save(0);
        write(x, "w1;w2");
        x.undo();
        due("19: pad stays", x.count(11), 5);
        x.carryOut();
        x.undo();
        due("19: emptied pad stays", x.count(11), 0);
        due("19: the slot stays", x.restore(0), 1);
        due("19: restore is a change", x.count(12), 1);
        x.undo();
        due("19: restore undone", x.count(3), 0);
    }

    private static void saveAndRestore() {
        WarmRods x = new WarmRods();
        for (int slot : new int[] {-1, 2, MIN, MAX}) {
            due("20: no slot " + slot, x.save(slot), BAD_VALUE);
            due("21: no slot " + slot, x.restore(slot), BAD_VALUE);
        }
        x.set(3, 7);
        x.weight(3);
        x.pass(18, 1010, 1, 30);
        x.weight(6);
        String first = told(x);
        due("20: the set", x.save(0), x.count(3));
        due("20: no change", x.count(12), 4);
        due("21: other slot", x.restore(1), NOT_POSSIBLE);
        x.pass(30, 1100, 1, 70);
        x.set(0, 1);
        String second = told(x);
        int tray = x.count(3);
        due("20: the second", x.save(1), tray);
        write(x, "abc");
        due("21: the first", x.restore(0) == tray ? 1 : 0, 0);
        due("21: all of it", told(x).equals(first) ? 1 : 0, 1);
        due("21: not the pad", x.count(11), 3);
        due("21: a change", x.count(12), 6);
        x.weight(0);
        x.restore(0);
        due("21: the slot keeps it", told(x).equals(first) ? 1 : 0, 1);
        due("21: the second", x.restore(1), tray);
        due("21: all of the second", told(x).equals(second) ? 1 : 0, 1);
        x.weight(2);
        x.save(1);
        x.weight(4);
        due("20: overwritten", x.restore(1), tray ^ 4);
    }

    private static final int[] HOURS_TOLD = {0, 1, 20, 46, 47, 48};

    /** What is told of the clock, but for the pad and the history; not every hour, as an object has 512 calls. */
    private static String told(WarmRods x) {
        StringBuilder all = new StringBuilder();
        for (int what = 0; what < 11; what++) {
            all.append(x.count(what)).append(' ');
        }
        for (int ago : HOURS_TOLD) {
            for (int what = 0; what < 7; what++) {
                all.append(x.hour(ago, what)).append(' ');
            }
        }
        return all.append(x.meanRate()).append(' ').append(x.replay()).toString();
    }

    private static void errorsChangeNothing() {
        WarmRods x = new WarmRods();
        x.weight(1);
        x.pass(18, 1010, 0, 30);
        write(x, "z;z;");
        String before = told(x) + x.count(11) + x.count(12);
        x.set(4, 0);
        x.set(0, 100);
        x.weight(8);
        x.pass(20, 1000, 0, 100);
        x.put(0);
        x.carryOut();
        x.save(2);
        x.restore(2);
        x.restore(0);
        due("errors change nothing", (told(x) + x.count(11) + x.count(12)).equals(before) ? 1 : 0, 1);
    }
}
