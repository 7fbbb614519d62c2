import java.util.List;

/** The sentences on the texts, and of promises 15 to 18. */
public final class EdgesOfTexts extends Edges {
    private static final String DIGITS = "0123456789";

    public static void main(String[] args) {
        runAll(EdgesOfTexts.class);
    }

    private static int faultOf(String text) {
        return write(new WarmRods(), text).fault();
    }

    private static void good(String... texts) {
        for (String text : texts) {
            due("fault of " + text, faultOf(text), NONE);
        }
    }

    private static void faulty(String text, int index) {
        due("fault of " + text, faultOf(text), index);
    }

    private static void tooShort(String... texts) {
        for (String text : texts) {
            due("fault of " + text, faultOf(text), text.length());
        }
    }

    private static int carriedOut(WarmRods x, String text) {
        return write(x, text).carryOut();
    }

    // ---- what the calls of texts are about

    @Says(where = "Ahead of the calls", words = "Ahead of the calls `put`, `wipe`, `fault`, `carryOut` the interface says: ---- texts.")
    static void onlyTexts() {
        WarmRods x = used();
        x.wipe();
        List<Long> before = whole(x);
        x = used();
        x.put(coded(";w1;b500"));
        x.fault();
        x.put(coded(";w8"));
        x.fault();
        x.carryOut();
        x.wipe();
        same("put(), wipe(), fault(), and carryOut() of a fault", whole(x), before);
    }

    // ---- the pad and the grammar

    @Says(where = "Texts", words = "The pad is a text of at most 80 characters, a row of orders:")
    static void lengthOfThePad() {
        WarmRods x = new WarmRods();
        for (int length = 1; length <= 80; length++) {
            due("character " + length, x.put(length % 2 == 1 ? 'z' : ';'), length);
            due("fault of " + length, x.fault(), length % 2 == 1 ? NONE : length);
        }
        due("character 81", x.put('z'), TOO_MANY);
        due("80 of them", x.count(11), 80);
        due("fault of 80", x.fault(), 80);
    }

    @Says(where = "Texts", words = "text = order { \";\" order }")
    static void rowOfOrders() {
        good("z", "z;z", "z;w0;b0;h0,0;z", "z;".repeat(39) + "z", "z;".repeat(38) + "w0;z");
        faulty(";", 0);
        faulty("z;;z", 2);
        faulty("zz", 1);
        faulty("z,z", 1);
        faulty("z;zz", 3);
        tooShort("z;", "z;".repeat(40));
    }

    @Says(where = "Texts", words = "order = \"h\" value \",\" number [ \"r\" ] [ \"*\" number ]")
    static void ordersOfHours() {
        good("h0,0", "h0,0r", "h0,0*0", "h0,0r*0", "h-0,0", "h-9999,9999r*9999", "h0,0r;z", "h0,0*0;z");
        faulty("h,0", 1);
        faulty("h0;", 2);
        faulty("h0r", 2);
        faulty("h0*0", 2);
        faulty("h0,-1", 3);
        faulty("h0,r", 3);
        faulty("h0,*0", 3);
        faulty("h0,0rr", 5);
        faulty("h0,0*0r", 6);
        faulty("h0,0**0", 5);
        faulty("h0,0*0*0", 6);
        faulty("h0,0*r", 5);
        faulty("h0,0*-1", 5);
        faulty("h0,0r*;", 6);
        faulty("h0,0r0", 5);
        faulty("h0,0,0", 4);
        faulty("h0,0z", 4);
        tooShort("h", "h-", "h0", "h0,", "h0,0*", "h0,0r*");
    }

    @Says(where = "Texts", words = "| \"w\" digit | \"b\" value | \"z\"")
    static void otherOrders() {
        good("w0", "w7", "b0", "b-0", "b9999", "b-9999", "z");
        faulty("w;", 1);
        faulty("w-0", 1);
        faulty("w00", 2);
        faulty("w0r", 2);
        faulty("b;", 1);
        faulty("b0,0", 2);
        faulty("b0r", 2);
        faulty("b0*1", 2);
        faulty("z0", 1);
        faulty("z*2", 1);
        tooShort("w", "b", "b-");
    }

    @Says(where = "Texts", words = "value = [ \"-\" ] number")
    static void values() {
        good("b-1", "b1", "h-1,0", "h1,0");
        faulty("b--1", 2);
        faulty("b+1", 1);
        faulty("b1-", 2);
        faulty("b-;", 2);
        faulty("h--1,0", 2);
        faulty("h-,0", 2);
        faulty("h1-,0", 2);
    }

    @Says(where = "Texts", words = "A digit is 0 to 7")
    static void digits() {
        for (char digit = '0'; digit <= '7'; digit++) {
            good("w" + digit);
        }
        faulty("w8", 1);
        faulty("w9", 1);
        faulty("w/", 1);
        faulty("w:", 1);
        faulty("z;w8;z", 3);
    }

    /** The places of a text at which a number stands: what is ahead of it, and what may be behind it. */
    private static final String[][] PLACES = {{"b", ""}, {"b-", ""}, {"h", ",0"}, {"h-", ",0"}, {"h0,", ""}, {"h0,", "r"},
        {"h0,", "*1"}, {"h0,0*", ""}, {"h0,0r*", ";z"}};

    @Says(where = "Texts", words = "a number 0 to 9999")
    static void numbers() {
        for (String[] place : PLACES) {
            for (String number : new String[] {"0", "1", "9", "10", "99", "100", "999", "1000", "9998", "9999"}) {
                good(place[0] + number + place[1]);
            }
        }
    }

    @Says(where = "Texts", words = "(also of a digit by which a number would be above 9999)")
    static void numbersAbove9999() {
        for (String[] place : PLACES) {
            int ahead = place[0].length();
            for (String number : new String[] {"10000", "99990", "99999", "100000", "2147483648", "4294967296"}) {
                faulty(place[0] + number + place[1], ahead + 4);
            }
        }
    }

    @Says(where = "Texts", words = "without leading zeros")
    static void leadingZeros() {
        for (String[] place : PLACES) {
            int ahead = place[0].length();
            for (String number : new String[] {"00", "01", "09", "010", "0000", "00001"}) {
                faulty(place[0] + number + place[1], ahead + 1);
            }
        }
    }

    // Each row: a text that can go on, the characters that can stand behind it, and those of them that end a text.
    private static final String[][] NEXT = {{"", "hwbz", "z"}, {"h", "-" + DIGITS, ""}, {"h-", DIGITS, ""}, {"h0", ",", ""},
        {"h-0", ",", ""}, {"h5", "," + DIGITS, ""}, {"h999", "," + DIGITS, ""}, {"h1234", ",", ""}, {"h5,", DIGITS, DIGITS},
        {"h5,0", "r*;", "r"}, {"h5,1", "r*;" + DIGITS, "r" + DIGITS}, {"h5,123", "r*;" + DIGITS, "r" + DIGITS},
        {"h5,1234", "r*;", "r"}, {"h5,1r", "*;", ""}, {"h5,1*", DIGITS, DIGITS}, {"h5,1*0", ";", ""},
        {"h5,1*7", ";" + DIGITS, DIGITS}, {"h5,1*1234", ";", ""}, {"h5,1r*", DIGITS, DIGITS}, {"h5,1r*7", ";" + DIGITS, DIGITS},
        {"w", "01234567", "01234567"}, {"w0", ";", ""}, {"w7", ";", ""}, {"b", "-" + DIGITS, DIGITS}, {"b-", DIGITS, DIGITS},
        {"b0", ";", ""}, {"b7", ";" + DIGITS, DIGITS}, {"b-1234", ";", ""}, {"z", ";", ""}, {"z;", "hwbz", "z"},
        {"w3;b-20;", "hwbz", "z"}};

    @Says(where = "Texts", words = "The fault is the index of the first character that cannot stand at its place")
    static void everyCharacterAtEveryPlace() {
        for (String[] row : NEXT) {
            for (char next = 33; next <= 126; next++) {
                boolean canStand = row[1].indexOf(next) >= 0;
                boolean isWhole = row[2].indexOf(next) >= 0;
                String text = row[0] + next;
                due("fault of " + text, faultOf(text), isWhole ? NONE : canStand ? text.length() : row[0].length());
            }
        }
    }

    @Says(where = "Texts", words = "of the first character that cannot stand at its place when the text is read from left to right")
    static void firstOfSeveral() {
        faulty("xx", 0);
        faulty("w8;x", 1);
        faulty("z;b00;w9", 4);
        faulty("x;", 0);
        faulty("z;".repeat(39) + "zz", 79);
        faulty("z;".repeat(39) + "xz", 78);
        faulty("x" + ";z".repeat(39), 0);
    }

    @Says(where = "Texts", words = "if there is none and the text ends too early (also if it is empty), it is the length of the text")
    static void endsTooEarly() {
        tooShort("", "z;", "w", "b-", "h5,1r*", "z;w3;b-20;h1,2;");
        faulty("z;".repeat(39) + "w", 79);
        faulty("z;".repeat(40), 80);
        faulty("z;".repeat(39) + "h0", 80);
        WarmRods x = write(new WarmRods(), "z");
        x.wipe();
        due("emptied", x.fault(), 0);
    }

    // ---- what the orders are

    @Says(where = "Texts", words = "so many (1, if it is left out)")
    static void howManyHours() {
        WarmRods x = new WarmRods();
        due("left out", carriedOut(x, "h20,1000"), 1);
        due("1", x.count(0), 1);
        due("1 is told", carriedOut(x, "h20,1000*1"), 1);
        due("2", x.count(0), 2);
        due("99 are told", carriedOut(x, "h20,1000*99"), 1);
        due("101", x.count(0), 101);
        due("left out behind another number", carriedOut(x, "h20,1000*9;h20,1000"), 2);
        due("111", x.count(0), 111);
        due("0 are told", carriedOut(x, "h20,1000*0"), 0);
        due("100 are told", carriedOut(x, "h20,1000*100"), 0);
        due("still 111", x.count(0), 111);
    }

    @Says(where = "Texts", words = "with the radio if \"r\" is told")
    static void withTheRadio() {
        WarmRods x = plain(500, 1);
        due("all four", carriedOut(x, "h20,1000;h20,1000r;h20,1000*2;h20,1000r*3;h20,1000"), 5);
        due("hours", x.count(0), 8);
        due("with the radio", x.count(6), 4);
        due("set", x.count(4), 4);
        due("the latest one", x.hour(0, 2), 0);
    }

    @Says(where = "Texts", words = "\"h\": pass() hours with a heat and air")
    static void hoursOfTexts() {
        WarmRods x = new WarmRods();
        due("the ends", carriedOut(x, "h-20,800;h50,1200;h-0,1000"), 3);
        due("heat of the first", x.hour(2, 0), 80);
        due("air of the first", x.hour(2, 1), 800);
        due("heat of the second", x.hour(1, 0), 150);
        due("air of the second", x.hour(1, 1), 1200);
        due("heat of the third", x.hour(0, 0), 100);
        for (String beyond : new String[] {"h-21,1000", "h51,1000", "h20,799", "h20,1201", "h9999,0", "h-9999,9999"}) {
            due(beyond, carriedOut(new WarmRods(), beyond), 0);
        }
    }

    @Says(where = "Texts", words = "\"w\": weight(), laid or taken")
    static void weightsOfTexts() {
        WarmRods x = new WarmRods();
        due("laid", carriedOut(x, "w0;w7"), 2);
        due("both", x.count(3), 129);
        due("taken, and laid", carriedOut(x, "w0;w3"), 2);
        due("7 and 3", x.count(3), 136);
        due("laid and taken", carriedOut(x, "w4;w4"), 2);
        due("still 7 and 3", x.count(3), 136);
    }

    @Says(where = "Texts", words = "\"b\": set() of BASE")
    static void basesOfTexts() {
        WarmRods x = new WarmRods();
        due("greatest", carriedOut(x, "b500"), 1);
        due("500", x.count(9), 1500);
        due("least", carriedOut(x, "b-500"), 1);
        due("-500", x.count(9), 500);
        due("above", carriedOut(x, "b501"), 0);
        due("below", carriedOut(x, "b-501"), 0);
        due("far above", carriedOut(x, "b9999"), 0);
        due("far below", carriedOut(x, "b-9999"), 0);
        due("still -500", x.count(9), 500);
        due("-0", carriedOut(x, "b-0"), 1);
        due("0", x.count(9), 1000);
    }

    @Says(where = "Texts", words = "\"z\": zero().")
    static void zeroOfTexts() {
        WarmRods x = goBy(plain(1, 500), 0, 1);
        due("z", carriedOut(x, "z"), 1);
        due("off", x.count(1), RIGHT);
        due("carried", x.count(2), 1000);
        due("again", carriedOut(x, "z;z"), 2);
    }

    // ---- promise 15

    @Says(where = "Promise 15", words = "`characters`: 1 to 8 characters")
    static void oneToEightCharacters() {
        for (int many = 1; many <= 8; many++) {
            due(many + " characters", new WarmRods().put(coded("abcdefgh".substring(0, many))), many);
        }
        due("none", new WarmRods().put(0L), BAD_VALUE);
    }

    @Says(where = "Promise 15", words = "BAD_VALUE if there is no character")
    static void noCharacter() {
        due("0", new WarmRods().put(0L), BAD_VALUE);
        for (int bit = 8; bit < 64; bit++) {
            due("bit " + bit + " above 8 bits that are 0", new WarmRods().put(1L << bit), BAD_VALUE);
        }
        due("a character above 8 bits that are 0", new WarmRods().put((long) 'a' << 8), BAD_VALUE);
    }

    @Says(where = "Promise 15", words = "a code is not 33 to 126")
    static void codes() {
        range("the last character", 33, 126, BAD_VALUE, code -> new WarmRods().put(code));
        for (int code = 1; code < 256; code++) {
            due("code " + code, new WarmRods().put(code), code >= 33 && code <= 126 ? 1 : BAD_VALUE);
        }
    }

    @Says(where = "Promise 15", words = "a code is not 33 to 126")
    static void codesAtEachPlace() {
        for (int many = 1; many <= 8; many++) {
            long text = coded("abcdefgh".substring(0, many));
            for (int place = 0; place < many; place++) {
                long without = text & ~(255L << 8 * place);
                for (int code : new int[] {1, 31, 32, 127, 128, 161, 255}) {
                    due("code " + code + " at " + place + " of " + many,
                        new WarmRods().put(without | (long) code << 8 * place), BAD_VALUE);
                }
                for (int code : new int[] {33, 126}) {
                    due("code " + code + " at " + place + " of " + many,
                        new WarmRods().put(without | (long) code << 8 * place), many);
                }
            }
        }
    }

    @Says(where = "Promise 15", words = "or a bit above 8 bits that are 0 is not 0")
    @Says(where = "Promise 15", words = "8 bits that are 0 mean that there are no more characters, and everything above them has to be "
        + "0, too.")
    static void bitsAboveTheEnd() {
        for (int many = 1; many <= 6; many++) {
            long text = coded("abcdefgh".substring(0, many));
            for (int bit = 8 * many + 8; bit < 64; bit++) {
                due("bit " + bit + " above " + many, new WarmRods().put(text | 1L << bit), BAD_VALUE);
            }
            due("a character above " + many, new WarmRods().put(text | (long) 'a' << 8 * many + 8), BAD_VALUE);
        }
        due("8 characters have no end", new WarmRods().put(coded("~~~~~~~~")), 8);
    }

    @Says(where = "Promise 15", words = "They are given as a number: its lowest 8 bits are the last character, the next 8 bits the "
        + "one before, and so on")
    static void orderOfCharacters() {
        WarmRods x = new WarmRods();
        due("w3", x.put((long) 'w' << 8 | '3'), 2);
        due("is whole", x.fault(), NONE);
        due(";b-17;w6", x.put(coded(";b-17;w6")), 10);
        due("is whole", x.fault(), NONE);
        due("is carried out", x.carryOut(), 3);
        due("3 and 6", x.count(3), 72);
        due("-17", x.count(9), 983);
    }

    @Says(where = "Promise 15", words = "Returns the length of the pad then")
    static void lengthThen() {
        WarmRods x = new WarmRods();
        due("1", x.put('z'), 1);
        due("8 more", x.put(coded(";z;z;z;z")), 9);
        due("3 more", x.put(coded(";z;")), 12);
        due("as count tells", x.count(11), 12);
        x.wipe();
        due("2, on an empty pad", x.put(coded("zz")), 2);
        x.wipe();
        write(x, "z;z");
        x.carryOut();
        due("2, behind carryOut()", x.put(coded("w1")), 2);
    }

    @Says(where = "Promise 15", words = "TOO_MANY if the pad would be longer than 80")
    static void fullPad() {
        for (int many = 1; many <= 8; many++) {
            WarmRods x = write(new WarmRods(), "z;".repeat(40).substring(0, 80 - many));
            due(many + " more than there is place", x.put(coded("abcdefgh".substring(0, many))), 80);
            due("one more than 80", x.put('z'), TOO_MANY);
            WarmRods y = write(new WarmRods(), "z;".repeat(40).substring(0, 81 - many));
            due(many + ", one too many", y.put(coded("abcdefgh".substring(0, many))), TOO_MANY);
            due("none of them is appended", y.count(11), 81 - many);
        }
    }

    @Says(where = "Promise 15", words = "TOO_MANY if the pad would be longer than 80")
    static void lastCharacterOfThePad() {
        WarmRods x = write(new WarmRods(), "z;".repeat(39) + "w");
        due("79", x.count(11), 79);
        due("two more", x.put(coded("5;")), TOO_MANY);
        due("still 79", x.count(11), 79);
        due("one more", x.put('5'), 80);
        due("is whole", x.fault(), NONE);
        due("81", x.put(';'), TOO_MANY);
        due("still whole", x.fault(), NONE);
        due("carried out", x.carryOut(), 40);
        due("the last order, too", x.count(3), 32);
        due("empty then", x.put('z'), 1);
    }

    @Says(where = "Promise 15", words = "BAD_VALUE if there is no character, a code is not 33 to 126, or a bit above 8 bits that are 0 is "
        + "not 0; TOO_MANY if")
    static void badValueFirst() {
        WarmRods x = write(new WarmRods(), "z".repeat(80));
        due("no character", x.put(0L), BAD_VALUE);
        due("code 32", x.put(32L), BAD_VALUE);
        due("code 127", x.put(127L), BAD_VALUE);
        due("a bit above", x.put(1L << 16 | 'z'), BAD_VALUE);
        due("eight bad ones", x.put(-1L), BAD_VALUE);
        due("a right one", x.put('z'), TOO_MANY);
    }

    @Says(where = "Promise 15", words = "Appends characters to the pad.")
    static void putIsNoChange() {
        WarmRods x = new WarmRods();
        x.put('z');
        due("changes", x.count(12), 0);
    }

    // ---- promise 16

    @Says(where = "Promise 16", words = "Empties the pad, and returns the length that it had.")
    static void wipes() {
        WarmRods x = new WarmRods();
        due("an empty pad", x.wipe(), 0);
        write(x, "z");
        due("one character", x.wipe(), 1);
        due("empty", x.count(11), 0);
        due("empty again", x.wipe(), 0);
        write(x, "z;".repeat(40));
        due("a full pad", x.wipe(), 80);
        due("empty", x.count(11), 0);
        due("eight, from its beginning on", x.put(coded("z;w1;b-2")), 8);
        due("without the old ones behind them", x.fault(), NONE);
        due("no change", x.count(12), 0);
    }

    // ---- promise 17

    @Says(where = "Promise 17", words = "Returns the fault of the pad, NONE if there is none.")
    static void faultOfThePad() {
        WarmRods x = new WarmRods();
        due("empty", x.fault(), 0);
        write(x, "z");
        due("whole", x.fault(), NONE);
        write(x, ";");
        due("ends too early", x.fault(), 2);
        write(x, "w5");
        due("whole again", x.fault(), NONE);
        due("asked again", x.fault(), NONE);
        write(x, "5");
        due("a character too many", x.fault(), 4);
        write(x, ";z");
        due("stays the first one", x.fault(), 4);
        due("the pad stays", x.count(11), 7);
        due("no change", x.count(12), 0);
    }

    @Says(where = "Promise 17", words = "Returns the fault of the pad")
    static void noFaultOutOfRange() {
        good("b501", "b-501", "h51,1000", "h-21,1000", "h20,799", "h20,1201", "h20,1000*0", "h20,1000*100", "h9999,9999*9999");
    }

    // ---- promise 18

    @Says(where = "Promise 18", words = "BAD_TEXT if the pad has a fault (then it stays)")
    static void badText() {
        for (String text : new String[] {"", "z;", "x", "z;w8", "z;".repeat(40), "z;".repeat(39) + "zz", "w1;b00"}) {
            WarmRods x = write(new WarmRods(), text);
            due("of " + text, x.carryOut(), BAD_TEXT);
            due("stays", x.count(11), text.length());
            due("no order is carried out", x.count(3), 0);
            due("no change", x.count(12), 0);
        }
        WarmRods x = write(new WarmRods(), "w1;");
        due("ends too early", x.carryOut(), BAD_TEXT);
        due("goes on", write(x, "w2").carryOut(), 2);
        due("both", x.count(3), 6);
    }

    @Says(where = "Promise 18", words = "Carries the orders of the pad out, one after the other, up to the first one that returns an error")
    static void firstError() {
        String[] bad = {"b501", "h51,1000", "h20,1000*0", "h20,1000*100", "h20,1201r"};
        for (String order : bad) {
            WarmRods first = new WarmRods();
            due(order + " first", carriedOut(first, order + ";w1"), 0);
            due("none behind it", first.count(3), 0);
            WarmRods second = new WarmRods();
            due(order + " second", carriedOut(second, "w0;" + order + ";w1;w2"), 1);
            due("none behind it", second.count(3), 1);
            WarmRods last = new WarmRods();
            due(order + " last", carriedOut(last, "w0;w1;" + order), 2);
            due("all ahead of it", last.count(3), 3);
            due("none of its hours", last.count(0), 0);
        }
        due("no error", carriedOut(new WarmRods(), "w0;w1;w2"), 3);
    }

    @Says(where = "Promise 18", words = "up to the first one that returns an error")
    static void moreThanAllHours() {
        WarmRods x = goBy(new WarmRods(), 0, 9900);
        due("98 of 99 hours", carriedOut(x, "h20,1000*98;h20,1000*2;h20,1000"), 1);
        due("9998", x.count(0), 9998);
        due("the last one, and one more", carriedOut(x, "w1;h20,1000;w2;h20,1000;w3"), 3);
        due("all hours", x.count(0), ALL_HOURS);
        due("1 and 2", x.count(3), 6);
        due("none more", carriedOut(x, "h20,1000"), 0);
    }

    @Says(where = "Promise 18", words = "and empties the pad")
    static void emptiesThePad() {
        for (String text : new String[] {"z", "b501", "w1;b501;w2", "z;".repeat(38) + "w0;z"}) {
            WarmRods x = write(new WarmRods(), text);
            x.carryOut();
            due("behind " + text, x.count(11), 0);
            due("nothing more to carry out", x.carryOut(), BAD_TEXT);
        }
    }

    @Says(where = "Promise 18", words = "This is a change (one, with all of them; also if none is carried out).")
    static void oneChange() {
        WarmRods x = new WarmRods();
        due("seven orders", carriedOut(x, "w0;w1;w2;w3;b5;h20,1000;z"), 7);
        due("one change", x.count(12), 1);
        due("none carried out", carriedOut(x, "b501"), 0);
        due("a change, too", x.count(12), 2);
        due("undo", x.undo(), 1);
        due("nothing was different", x.count(3), 15);
        due("undo", x.undo(), 0);
        due("without all of them: weights", x.count(3), 0);
        due("without all of them: BASE", x.count(9), 1000);
        due("without all of them: hours", x.count(0), 0);
    }

    @Says(where = "Promise 18", words = "Returns how many orders were carried out")
    static void howManyOrders() {
        due("1", carriedOut(new WarmRods(), "z"), 1);
        due("2", carriedOut(new WarmRods(), "z;z"), 2);
        due("40, in 79 characters", carriedOut(new WarmRods(), "z;".repeat(39) + "z"), 40);
        due("40, in 80 characters", carriedOut(new WarmRods(), "z;".repeat(39) + "w5"), 40);
        due("hours are one order", carriedOut(new WarmRods(), "h20,1000*99"), 1);
        due("0", carriedOut(new WarmRods(), "b501;z"), 0);
    }
}
