import java.util.List;
import java.util.function.Consumer;

/** The sentences of promises 19 to 21: undo, saving. */
public final class EdgesOfUndo extends Edges {
    public static void main(String[] args) {
        runAll(EdgesOfUndo.class);
    }

    private record Change(String name, Consumer<WarmRods> call) {}

    /** One of each method that is a change, on a clock that has something saved in the slot 0. */
    private static final List<Change> CHANGES = List.of(
        new Change("set", x -> x.set(AIR, 50)),
        new Change("weight", x -> x.weight(2)),
        new Change("pass", x -> x.pass(40, 1100, 1, 60)),
        new Change("zero", x -> x.zero()),
        new Change("carryOut", x -> write(x, "w4;b-30;h1,900r*50;z;w0").carryOut()),
        new Change("restore", x -> x.restore(0)));

    /** As used(), but with an empty pad. */
    private static WarmRods ready() {
        WarmRods x = used();
        x.wipe();
        return x;
    }

    @Says(where = "Ahead of the calls", words = "Ahead of the calls `undo`, `save`, `restore` the interface says: ---- undo, saving.")
    static void onlyUndoAndSaving() {
        WarmRods x = used();
        List<Long> before = told(x);
        int pad = x.count(11);
        x.save(0);
        same("behind save(0)", told(x), before);
        x.weight(0);
        x.undo();
        same("behind undo()", told(x), before);
        x.restore(0);
        same("behind restore(0)", told(x), before);
        due("the pad", x.count(11), pad);
        due("its text", x.carryOut(), 3);
    }

    // ---- promise 19

    @Says(where = "Promise 19", words = "NOT_POSSIBLE if there is none.")
    static void nothingToUndo() {
        WarmRods x = new WarmRods();
        due("a new clock", x.undo(), NOT_POSSIBLE);
        x.weight(0);
        due("one change", x.undo(), 0);
        due("no more", x.undo(), NOT_POSSIBLE);
        due("no more", x.undo(), NOT_POSSIBLE);
        due("without it", x.count(3), 0);
        due("none left", x.count(12), 0);
    }

    @Says(where = "Promise 19", words = "Returns how many changes can be undone then")
    static void howManyAreLeft() {
        WarmRods x = new WarmRods();
        for (int weight = 0; weight < 6; weight++) {
            x.weight(weight);
        }
        for (int left = 5; left >= 0; left--) {
            due("left", x.undo(), left);
            due("the tray of then", x.count(3), (1 << left) - 1);
        }
    }

    @Says(where = "Promise 19", words = "A history of at most 6 states is kept")
    static void sixStates() {
        WarmRods x = new WarmRods();
        for (int weight = 0; weight < 6; weight++) {
            x.weight(weight);
        }
        due("6 changes", x.count(12), 6);
        for (int i = 0; i < 6; i++) {
            x.undo();
        }
        due("back to the first state", x.count(3), 0);
        due("a seventh undo", x.undo(), NOT_POSSIBLE);
    }

    @Says(where = "Promise 19", words = "when one more is recorded, the oldest one is dropped")
    static void seventhState() {
        WarmRods x = new WarmRods();
        for (int weight = 0; weight < 7; weight++) {
            x.weight(weight);
        }
        due("7 changes", x.count(12), 6);
        for (int left = 5; left >= 0; left--) {
            due("left", x.undo(), left);
            due("the tray of then", x.count(3), (1 << left + 1) - 1);
        }
        due("the first state is gone", x.undo(), NOT_POSSIBLE);
        due("one weight stays", x.count(3), 1);
    }

    @Says(where = "Promise 19", words = "when one more is recorded, the oldest one is dropped")
    static void seventhStateOfEachMethod() {
        for (Change change : CHANGES) {
            WarmRods x = new WarmRods();
            x.save(0);
            for (int base = 1; base <= 6; base++) {
                x.set(BASE, base);
            }
            change.call.accept(x);
            due("6 of 7, by " + change.name, x.count(12), 6);
            for (int left = 5; left >= 0; left--) {
                due("left, by " + change.name, x.undo(), left);
                due("BASE of then, by " + change.name, x.count(9), 1001 + left);
            }
            due("no more, by " + change.name, x.undo(), NOT_POSSIBLE);
        }
    }

    @Says(where = "Promise 19", words = "A history of at most 6 states is kept")
    static void historyGoesRound() {
        WarmRods x = new WarmRods();
        for (int base = 1; base <= 20; base++) {
            x.set(BASE, base);
            if (base % 3 == 0) {
                x.undo();
            }
        }
        // of 18, 19 and 20: 18 was undone; the states kept are those before 20, 19, 17, 16, 14 and 13
        int[] before = {19, 17, 16, 14, 13, 11};
        for (int i = 0; i < 6; i++) {
            due("left", x.undo(), 5 - i);
            due("BASE of then", x.count(9), 1000 + before[i]);
        }
        due("no more", x.undo(), NOT_POSSIBLE);
    }

    @Says(where = "Promise 19", words = "everything except the pad, the slots and the history is as it was before it")
    static void everythingIsAsBefore() {
        for (Change change : CHANGES) {
            WarmRods x = ready();
            List<Long> before = told(x);
            change.call.accept(x);
            differs("by " + change.name, told(x), before);
            x.undo();
            same("undone: " + change.name, told(x), before);
        }
    }

    @Says(where = "Promise 19", words = "everything except the pad, the slots and the history is as it was before it")
    static void theLogIsAsBefore() {
        WarmRods x = new WarmRods();
        for (int hour = 0; hour < 48; hour++) {
            x.pass(hour - 20, 900 + hour, 0, 1);
        }
        x.pass(50, 1200, 0, 1);
        due("the oldest one of 49", x.hour(47, 0), 81);
        x.undo();
        due("the oldest one of 48 is back", x.hour(47, 0), 80);
        x.pass(50, 1200, 0, 99);
        x.undo();
        for (int ago = 0; ago < 48; ago++) {
            due("heat of hour " + ago, x.hour(ago, 0), 127 - ago);
            due("air of hour " + ago, x.hour(ago, 1), 947 - ago);
        }
        due("48 hours", x.count(5), 48);
    }

    @Says(where = "Promise 19", words = "everything except the pad, the slots and the history is as it was before it")
    static void thePadStays() {
        WarmRods x = new WarmRods();
        write(x, "w1");
        x.weight(0);
        write(x, ";w2");
        x.undo();
        due("its length", x.count(11), 5);
        due("carried out", x.carryOut(), 2);
        due("1 and 2", x.count(3), 6);
        x.undo();
        due("not filled again", x.count(11), 0);
        due("without 1 and 2", x.count(3), 0);
    }

    @Says(where = "Promise 19", words = "everything except the pad, the slots and the history is as it was before it")
    static void theSlotsStay() {
        WarmRods x = new WarmRods();
        x.weight(0);
        x.save(0);
        x.weight(1);
        x.save(1);
        x.undo();
        x.undo();
        due("an empty tray", x.count(3), 0);
        due("slot 0", x.restore(0), 1);
        due("slot 1", x.restore(1), 3);
        x.save(0);
        x.undo();
        due("what was saved behind the change that is undone", x.restore(0), 3);
    }

    @Says(where = "Promise 19", words = "each method that is a change, and returns no error, records the state before it")
    static void whatIsRecorded() {
        for (Change change : CHANGES) {
            WarmRods x = new WarmRods();
            x.save(0);
            change.call.accept(x);
            due("by " + change.name, x.count(12), 1);
        }
    }

    @Says(where = "Promise 19", words = "(also if nothing is different then)")
    static void recordedThoughNothingIsDifferent() {
        WarmRods x = new WarmRods();
        x.save(0);
        x.set(BASE, 0);
        due("set", x.count(12), 1);
        x.zero();
        due("zero", x.count(12), 2);
        x.restore(0);
        due("restore", x.count(12), 3);
        write(x, "b501").carryOut();
        due("carryOut of no order", x.count(12), 4);
        write(x, "z;b0").carryOut();
        due("carryOut", x.count(12), 5);
        for (int left = 4; left >= 0; left--) {
            due("undo", x.undo(), left);
        }
    }

    @Says(where = "Promise 19", words = "each method that is a change, and returns no error, records the state before it")
    static void errorsRecordNothing() {
        WarmRods x = new WarmRods();
        x.set(4, 0);
        x.set(ROD, 100);
        x.weight(8);
        x.pass(51, 1000, 0, 1);
        x.carryOut();
        x.undo();
        x.restore(0);
        x.restore(2);
        due("changes to undo", x.count(12), 0);
        WarmRods full = goBy(new WarmRods(), 0, ALL_HOURS);
        full.save(0);
        for (int i = 0; i < 6; i++) {
            full.undo();
        }
        full.restore(0);
        due("all hours have gone by", full.pass(20, 1000, 0, 1), NOT_POSSIBLE);
        due("restore() alone to undo", full.count(12), 1);
    }

    @Says(where = "Promise 19", words = "each method that is a change, and returns no error, records the state before it")
    static void noChanges() {
        WarmRods x = new WarmRods();
        x.weight(0);
        x.save(0);
        x.put('z');
        x.wipe();
        x.fault();
        x.hour(0, 0);
        x.count(0);
        x.meanRate();
        x.ofLog(0);
        x.rate(20, 1000);
        x.bestWeights(20, 1000, 0);
        x.offIn(20, 1000);
        x.replay();
        x.coolest(1000);
        due("changes to undo", x.count(12), 1);
        due("undo", x.undo(), 0);
        due("undo records nothing", x.undo(), NOT_POSSIBLE);
    }

    @Says(where = "Promise 19", words = "An order of a text records nothing by itself.")
    static void ordersRecordNothing() {
        WarmRods x = new WarmRods();
        x.set(BASE, 7);
        due("nine orders", write(x, "z;w0;b1;w1;b2;h9,999;w2;b3;z").carryOut(), 9);
        due("one change more", x.count(12), 2);
        due("undo", x.undo(), 1);
        due("BASE ahead of all of them", x.count(9), 1007);
        due("undo", x.undo(), 0);
        due("BASE at first", x.count(9), 1000);
    }

    @Says(where = "Promise 19", words = "Undoes the latest change")
    static void changesBehindAnUndo() {
        WarmRods x = new WarmRods();
        x.weight(0);
        x.weight(1);
        x.undo();
        x.weight(2);
        due("0 and 2", x.count(3), 5);
        due("undo", x.undo(), 1);
        due("0", x.count(3), 1);
        due("undo", x.undo(), 0);
        due("none", x.count(3), 0);
        due("no more", x.undo(), NOT_POSSIBLE);
    }

    // ---- promise 20

    @Says(where = "Promise 20", words = "`slot`: 0 or 1")
    static void bothSlotsOfSave() {
        WarmRods x = plain(0, 1, 2);
        due("save(0)", x.save(0), 4);
        x.weight(3);
        due("save(1)", x.save(1), 12);
        due("what lies in 0", x.restore(0), 4);
        due("what lies in 1", x.restore(1), 12);
    }

    @Says(where = "Promise 20", words = "BAD_VALUE if there is no such slot")
    static void slotsOfSave() {
        range("slot", 0, 1, BAD_VALUE, slot -> new WarmRods().save(slot));
    }

    @Says(where = "Promise 20", words = "Returns the weights on the tray, as a set")
    static void trayOfSave() {
        for (int slot = 0; slot < 2; slot++) {
            due("none", plain(0, 1).save(slot), 0);
            due("7", plain(0, 1, 7).save(slot), 128);
            due("all", plain(0, 1, 0, 1, 2, 3, 4, 5, 6, 7).save(slot), 255);
        }
    }

    @Says(where = "Promise 20", words = "Saves everything except the pad, the history and the slots in a slot")
    static void everythingIsSaved() {
        for (int slot = 0; slot < 2; slot++) {
            WarmRods x = ready();
            List<Long> saved = told(x);
            x.save(slot);
            for (Change change : CHANGES) {
                if (!change.name.equals("restore")) {
                    change.call.accept(x);
                }
            }
            differs("ahead of restore(" + slot + ")", told(x), saved);
            x.restore(slot);
            same("behind restore(" + slot + ")", told(x), saved);
        }
    }

    @Says(where = "Promise 20", words = "Saves everything except the pad, the history and the slots in a slot")
    static void thePadIsNotSaved() {
        WarmRods x = new WarmRods();
        write(x, "w1");
        x.save(0);
        write(x, ";w2");
        x.restore(0);
        due("its length", x.count(11), 5);
        x.carryOut();
        x.restore(0);
        due("still empty", x.count(11), 0);
    }

    @Says(where = "Promise 20", words = "Saves everything except the pad, the history and the slots in a slot")
    static void theHistoryIsNotSaved() {
        WarmRods x = new WarmRods();
        x.weight(0);
        x.weight(1);
        x.save(0);
        due("save() is no change", x.count(12), 2);
        x.undo();
        x.undo();
        x.restore(0);
        due("only restore() can be undone", x.count(12), 1);
        due("undo", x.undo(), 0);
        due("none on the tray", x.count(3), 0);
    }

    @Says(where = "Promise 20", words = "Saves everything except the pad, the history and the slots in a slot")
    static void theSlotsAreNotSaved() {
        WarmRods x = new WarmRods();
        x.weight(0);
        x.save(1);
        x.save(0);
        x.weight(1);
        x.save(1);
        x.restore(0);
        due("slot 1, as it was saved last", x.restore(1), 3);
    }

    @Says(where = "Promise 20", words = "and overwrites what was saved there")
    static void overwritten() {
        WarmRods x = new WarmRods();
        x.weight(0);
        x.save(0);
        x.save(1);
        x.weight(1);
        due("saved anew", x.save(0), 3);
        x.weight(2);
        due("the latter one", x.restore(0), 3);
        due("the other slot is as it was", x.restore(1), 1);
    }

    // ---- promise 21

    @Says(where = "Promise 21", words = "`slot`: 0 or 1")
    static void bothSlotsOfRestore() {
        WarmRods x = plain(0, 1, 5);
        x.save(1);
        x.weight(6);
        x.save(0);
        x.weight(7);
        due("restore(1)", x.restore(1), 32);
        due("restore(0)", x.restore(0), 96);
        due("restore(1) again", x.restore(1), 32);
    }

    @Says(where = "Promise 21", words = "BAD_VALUE if there is no such slot; NOT_POSSIBLE if nothing was saved in it.")
    static void slotsOfRestore() {
        range("slot, both saved", 0, 1, BAD_VALUE, slot -> used().restore(slot));
        due("slot -1, nothing saved", new WarmRods().restore(-1), BAD_VALUE);
        due("slot 2, nothing saved", new WarmRods().restore(2), BAD_VALUE);
        due("slot MIN, nothing saved", new WarmRods().restore(MIN), BAD_VALUE);
        due("slot MAX, nothing saved", new WarmRods().restore(MAX), BAD_VALUE);
    }

    @Says(where = "Promise 21", words = "NOT_POSSIBLE if nothing was saved in it")
    static void nothingSaved() {
        for (int slot = 0; slot < 2; slot++) {
            WarmRods x = plain(0, 1, 4);
            due("nothing saved", x.restore(slot), NOT_POSSIBLE);
            x.save(1 - slot);
            due("saved in the other one", x.restore(slot), NOT_POSSIBLE);
            x.save(slot);
            due("saved", x.restore(slot), 16);
            WarmRods first = new WarmRods();
            first.save(slot);
            due("a new clock saved", first.restore(slot), 0);
        }
    }

    @Says(where = "Promise 21", words = "Restores what was saved last in a slot, which keeps it.")
    static void theSlotKeepsIt() {
        for (Change change : CHANGES) {
            WarmRods x = ready();
            x.save(1);
            List<Long> saved = told(x);
            for (int time = 0; time < 2; time++) {
                change.call.accept(x);
                due("restored behind " + change.name, x.restore(1), saved.get(3));
                same("all of it behind " + change.name, told(x), saved);
            }
        }
    }

    @Says(where = "Promise 21", words = "Returns the weights on the tray, as a set, then")
    static void trayOfRestore() {
        WarmRods x = plain(0, 1, 0, 1, 2, 3, 4, 5, 6, 7);
        x.save(0);
        x.undo();
        x.save(1);
        due("all", x.restore(0), 255);
        due("all but 7", x.restore(1), 127);
        due("all but 7, as count tells", x.count(3), 127);
    }

    @Says(where = "Promise 21", words = "This is a change.")
    static void restoreIsAChange() {
        WarmRods x = ready();
        List<Long> before = told(x);
        x.restore(0);
        due("recorded", x.count(12), 6);
        differs("behind it", told(x), before);
        due("undo", x.undo(), 5);
        same("undone", told(x), before);
        WarmRods y = new WarmRods();
        y.save(0);
        y.restore(0);
        due("recorded, with nothing different", y.count(12), 1);
    }
}
