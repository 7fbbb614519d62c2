/** "A call that returns an error changes nothing": each error of each method, on a clock in which nothing is as at first. */
public final class EdgesOfRefusals extends Edges {
    private static final String RULE = "A call that returns an error changes nothing.";

    public static void main(String[] args) {
        runAll(EdgesOfRefusals.class);
    }

    private static WarmRods usedAndFull() {
        WarmRods x = used();
        goBy(x, 1, ALL_HOURS - x.count(0));
        x.weight(0);
        x.set(ROD, 3);
        return x;
    }

    /** With a text that ends too early. */
    private static WarmRods usedAndFaulty() {
        return write(used(), ";");
    }

    private static WarmRods usedAndPadFull() {
        return write(used(), ";z".repeat(30) + ";w2");
    }

    /** With nothing saved, and nothing to undo. */
    private static WarmRods undoneWhole() {
        WarmRods x = new WarmRods();
        x.set(BASE, 4);
        x.weight(5);
        x.pass(24, 999, 1, 60);
        x.weight(6);
        x.pass(24, 999, 0, 1);
        for (int i = 0; i < 6; i++) {
            x.zero();
        }
        x.pass(23, 1001, 0, 1);
        for (int i = 0; i < 6; i++) {
            x.undo();
        }
        return write(x, "w1;b3");
    }

    @Says(where = "CONVENTIONS, Promise 2", words = RULE)
    static void set() {
        refused("set(4, 1)", EdgesOfRefusals::used, x -> x.set(4, 1), BAD_VALUE);
        refused("set(-1, 1)", EdgesOfRefusals::used, x -> x.set(-1, 1), BAD_VALUE);
        refused("set(ROD, 100)", EdgesOfRefusals::used, x -> x.set(ROD, 100), BAD_VALUE);
        refused("set(AIR, -1)", EdgesOfRefusals::used, x -> x.set(AIR, -1), BAD_VALUE);
        refused("set(BASE, 501)", EdgesOfRefusals::used, x -> x.set(BASE, 501), BAD_VALUE);
        refused("set(LIMIT, 0)", EdgesOfRefusals::used, x -> x.set(LIMIT, 0), BAD_VALUE);
    }

    @Says(where = "CONVENTIONS, Promise 3", words = RULE)
    static void weight() {
        refused("weight(8)", EdgesOfRefusals::used, x -> x.weight(8), NO_SUCH);
        refused("weight(-1)", EdgesOfRefusals::used, x -> x.weight(-1), NO_SUCH);
        refused("weight(32)", EdgesOfRefusals::used, x -> x.weight(32), NO_SUCH);
    }

    @Says(where = "CONVENTIONS, Promise 4", words = RULE)
    static void pass() {
        refused("heat 51", EdgesOfRefusals::used, x -> x.pass(51, 1000, 1, 9), BAD_VALUE);
        refused("air 799", EdgesOfRefusals::used, x -> x.pass(20, 799, 1, 9), BAD_VALUE);
        refused("radio 2", EdgesOfRefusals::used, x -> x.pass(20, 1000, 2, 9), BAD_VALUE);
        refused("hours 0", EdgesOfRefusals::used, x -> x.pass(20, 1000, 1, 0), BAD_VALUE);
        refused("hours 100", EdgesOfRefusals::used, x -> x.pass(20, 1000, 1, 100), BAD_VALUE);
        refused("hours -1", EdgesOfRefusals::used, x -> x.pass(20, 1000, 1, -1), BAD_VALUE);
    }

    @Says(where = "CONVENTIONS, Promise 4", words = RULE)
    static void passBeyondAllHours() {
        refused("one hour", EdgesOfRefusals::usedAndFull, x -> x.pass(30, 1100, 1, 1), NOT_POSSIBLE);
        refused("99 hours", EdgesOfRefusals::usedAndFull, x -> x.pass(30, 1100, 1, 99), NOT_POSSIBLE);
    }

    @Says(where = "CONVENTIONS, Promise 6", words = RULE)
    static void hour() {
        refused("hour(48, 0)", EdgesOfRefusals::used, x -> x.hour(48, 0), NO_SUCH);
        refused("hour(-1, 0)", EdgesOfRefusals::used, x -> x.hour(-1, 0), NO_SUCH);
        refused("hour(0, 7)", EdgesOfRefusals::used, x -> x.hour(0, 7), BAD_VALUE);
        refused("hour(0, -1)", EdgesOfRefusals::used, x -> x.hour(0, -1), BAD_VALUE);
    }

    @Says(where = "CONVENTIONS, Promise 7", words = RULE)
    static void count() {
        refused("count(13)", EdgesOfRefusals::used, x -> x.count(13), BAD_VALUE);
        refused("count(-1)", EdgesOfRefusals::used, x -> x.count(-1), BAD_VALUE);
    }

    @Says(where = "CONVENTIONS, Promise 9", words = RULE)
    static void ofLog() {
        refused("ofLog(5)", EdgesOfRefusals::used, x -> x.ofLog(5), BAD_VALUE);
        refused("ofLog(-1)", EdgesOfRefusals::used, x -> x.ofLog(-1), BAD_VALUE);
    }

    @Says(where = "CONVENTIONS, Promise 10", words = RULE)
    static void rate() {
        refused("rate(51, 1000)", EdgesOfRefusals::used, x -> x.rate(51, 1000), BAD_VALUE);
        refused("rate(20, 1201)", EdgesOfRefusals::used, x -> x.rate(20, 1201), BAD_VALUE);
    }

    @Says(where = "CONVENTIONS, Promise 11", words = RULE)
    static void bestWeights() {
        refused("heat -21", EdgesOfRefusals::used, x -> x.bestWeights(-21, 1000, 0), BAD_VALUE);
        refused("air 1201", EdgesOfRefusals::used, x -> x.bestWeights(20, 1201, 0), BAD_VALUE);
        refused("what 2", EdgesOfRefusals::used, x -> x.bestWeights(20, 1000, 2), BAD_VALUE);
    }

    @Says(where = "CONVENTIONS, Promise 12", words = RULE)
    static void offIn() {
        refused("heat -21", EdgesOfRefusals::used, x -> x.offIn(-21, 1000), BAD_VALUE);
        refused("air 799", EdgesOfRefusals::used, x -> x.offIn(20, 799), BAD_VALUE);
    }

    @Says(where = "CONVENTIONS, Promise 14", words = RULE)
    static void coolest() {
        refused("air 799", EdgesOfRefusals::used, x -> x.coolest(799), BAD_VALUE);
        refused("air 1201", EdgesOfRefusals::used, x -> x.coolest(1201), BAD_VALUE);
    }

    @Says(where = "CONVENTIONS, Promise 15", words = RULE)
    static void put() {
        refused("no character", EdgesOfRefusals::used, x -> x.put(0L), BAD_VALUE);
        refused("code 32 ahead of others", EdgesOfRefusals::used, x -> x.put(32L << 16 | coded(";z")), BAD_VALUE);
        refused("code 127 behind others", EdgesOfRefusals::used, x -> x.put(coded(";z") << 8 | 127), BAD_VALUE);
        refused("a bit above", EdgesOfRefusals::used, x -> x.put(1L << 63 | coded(";z")), BAD_VALUE);
        refused("81 characters", EdgesOfRefusals::usedAndPadFull, x -> x.put('z'), TOO_MANY);
        refused("88 characters", EdgesOfRefusals::usedAndPadFull, x -> x.put(coded(";z;z;z;z")), TOO_MANY);
        refused("8 characters behind 73", () -> write(used(), ";z".repeat(28)), x -> x.put(coded(";z;z;z;z")), TOO_MANY);
    }

    @Says(where = "CONVENTIONS, Promise 18", words = RULE)
    static void carryOut() {
        refused("a text that ends too early", EdgesOfRefusals::usedAndFaulty, WarmRods::carryOut, BAD_TEXT);
        refused("a fault behind right orders", () -> write(used(), ";w1;w8"), WarmRods::carryOut, BAD_TEXT);
        refused("an empty pad", EdgesOfRefusals::usedAndWiped, WarmRods::carryOut, BAD_TEXT);
    }

    private static WarmRods usedAndWiped() {
        WarmRods x = used();
        x.wipe();
        return x;
    }

    @Says(where = "CONVENTIONS, Promise 19", words = RULE)
    static void undo() {
        refused("undo of nothing", EdgesOfRefusals::undoneWhole, WarmRods::undo, NOT_POSSIBLE);
        refused("undo of a new clock", WarmRods::new, WarmRods::undo, NOT_POSSIBLE);
    }

    @Says(where = "CONVENTIONS, Promise 20", words = RULE)
    static void save() {
        refused("save(2)", EdgesOfRefusals::used, x -> x.save(2), BAD_VALUE);
        refused("save(-1)", EdgesOfRefusals::used, x -> x.save(-1), BAD_VALUE);
        refused("save(2), nothing saved", EdgesOfRefusals::undoneWhole, x -> x.save(2), BAD_VALUE);
    }

    @Says(where = "CONVENTIONS, Promise 21", words = RULE)
    static void restore() {
        refused("restore(2)", EdgesOfRefusals::used, x -> x.restore(2), BAD_VALUE);
        refused("restore(-1)", EdgesOfRefusals::used, x -> x.restore(-1), BAD_VALUE);
        refused("restore(0), nothing saved", EdgesOfRefusals::undoneWhole, x -> x.restore(0), NOT_POSSIBLE);
        refused("restore(1), nothing saved", EdgesOfRefusals::undoneWhole, x -> x.restore(1), NOT_POSSIBLE);
        refused("restore(0), nothing saved in a new clock", WarmRods::new, x -> x.restore(0), NOT_POSSIBLE);
    }
}
