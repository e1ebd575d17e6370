/** The boundary cases of Undo, Exceptions and promises 17 to 19: each sentence has tests of its own. */
final class UndoEdgesTest {
    private static final String M = Edges.MARKET;
    private static final String B = Edges.BUYER;

    private UndoEdgesTest() {
    }

    public static void main(String[] args) {
        undoable();
        exceptions();
        undo();
        snapshots();
        Check.finish();
    }

    private static void undoable() {
        Edges.holds("Undo", "The methods in the section \"changes\" are undoable if they return normally, even if nothing is"
            + " different afterwards.", UndoEdgesTest::eachChange, UndoEdgesTest::changesThatChangeNothing);
        Edges.holds("Undo", "A script is one change as a whole.", UndoEdgesTest::scripts);
        Edges.holds("Undo", "At most the 8 latest changes can be undone.", UndoEdgesTest::eightChanges,
            UndoEdgesTest::nineChanges, UndoEdgesTest::manyChanges, UndoEdgesTest::changesAfterUndo);
        Edges.holds("Undo", "Undo, snapshots and restoring concern the whole state except the input buffer, the output text, the"
            + " reported error and the snapshots themselves.", UndoEdgesTest::whatUndoLeaves, UndoEdgesTest::whatRestoringLeaves,
            UndoEdgesTest::theWholeState);
    }

    private static void exceptions() {
        Edges.holds("Undo", "A method that throws an exception changes nothing, except where its description says so.",
            UndoEdgesTest::refusedAmongChanges);
        Edges.holds("Exceptions", "An IndexOutOfBoundsException is thrown for a barrel, eel or buyer that does not exist.",
            UndoEdgesTest::nothingOfThatIndex);
        Edges.holds("Exceptions", "An IllegalArgumentException is thrown for any other argument outside its range.",
            UndoEdgesTest::otherArguments);
        Edges.holds("Exceptions", "If several exceptions apply to a call, the one that is listed first in the description of the"
            + " method is thrown.", UndoEdgesTest::indexFirst, UndoEdgesTest::argumentBeforeState,
            UndoEdgesTest::argumentBeforeElement);
    }

    private static void undo() {
        Edges.holds("17", "Undoes the latest change that was not undone yet.", UndoEdgesTest::latestFirst);
        Edges.holds("17", "This method is not undoable itself.", UndoEdgesTest::undoIsNoChange);
        Edges.holds("17", "Returns the number of changes that can still be undone.", UndoEdgesTest::numbersOfChanges);
        Edges.holds("17", "Throws `NoSuchElementException` if no change can be undone", UndoEdgesTest::nothingToUndo);
    }

    private static void snapshots() {
        Edges.holds("18", "Saves a snapshot of the state, in place of an earlier one in the same slot.",
            UndoEdgesTest::inPlaceOfEarlier, UndoEdgesTest::twoSlots);
        Edges.holds("18", "This method is not undoable.", UndoEdgesTest::savingIsNoChange);
        Edges.holds("18", "Throws `IllegalArgumentException` if slot is out of range", UndoEdgesTest::wrongSlotsToSave);
        Edges.holds("19", "Restores the snapshot in a slot.", UndoEdgesTest::smallerAndGreaterStates);
        Edges.holds("19", "The snapshot stays there.", UndoEdgesTest::snapshotStays);
        Edges.holds("19", "This method is undoable.", UndoEdgesTest::restoringIsUndoable);
        Edges.holds("19", "Returns the minute of the restored state.", UndoEdgesTest::restoredMinutes);
        Edges.holds("19", "Throws `IllegalArgumentException` if slot is out of range", UndoEdgesTest::wrongSlotsToRestore);
        Edges.holds("19", "Throws `NoSuchElementException` if the slot is empty", UndoEdgesTest::emptySlots);
    }

    private static Object save(LowWaterAuction x, int slot) {
        x.saveSnapshot(slot);
        return "saved";
    }

    private static Object load(LowWaterAuction x, String setup) {
        Auctions.feed(x, setup);
        return x.loadSetup();
    }

    private static LowWaterAuction saved() {
        LowWaterAuction x = Edges.opened();
        x.saveSnapshot(0);
        x.saveSnapshot(1);
        return x;
    }

    /** After so many changes, the n-th of which makes the step 10 + n. */
    private static LowWaterAuction steps(int changes) {
        LowWaterAuction x = new LowWaterAuction();
        for (int step = 11; step <= 10 + changes; step++) {
            x.setStep(step);
        }
        return x;
    }

    // ---- Undo

    private static void eachChange() {
        Edges.undoable("loadSetup", LowWaterAuction::new, x -> load(x, M + B));
        Edges.undoable("runScript", LowWaterAuction::new, x -> Auctions.run(x, "wait 30;pay 0 5;barrel 1 10;"));
        Edges.undoable("nod", Edges::opened, x -> x.nod(2));
        Edges.undoable("passMinutes", Edges::opened, x -> x.passMinutes(200));
        Edges.undoable("addBarrel", LowWaterAuction::new, x -> x.addBarrel(1, 9, 10));
        Edges.undoable("split", LowWaterAuction::new, x -> x.split(0, 1));
        Edges.undoable("withdraw", LowWaterAuction::new, x -> x.withdraw(0));
        Edges.undoable("fund", LowWaterAuction::new, x -> x.fund(0, 9999));
        Edges.undoable("setReserve", LowWaterAuction::new, x -> x.setReserve(0, 999));
        Edges.undoable("setStep", LowWaterAuction::new, x -> x.setStep(50));
        Edges.undoable("setTaste", LowWaterAuction::new, x -> x.setTaste(0, 4, 999));
        Edges.undoable("restoreSnapshot", () -> Edges.after(saved(), 3), x -> x.restoreSnapshot(0));
    }

    private static void changesThatChangeNothing() {
        Edges.undoable("loadSetup of the same setup", LowWaterAuction::new, x -> load(x, Edges.FIRST_SETUP));
        Edges.undoable("an empty script", LowWaterAuction::new, LowWaterAuction::runScript);
        Edges.undoable("a script of spaces", LowWaterAuction::new, x -> Auctions.run(x, "   "));
        Edges.undoable("a script that cannot be executed", LowWaterAuction::new, x -> Auctions.run(x, "nod 0;"));
        Edges.undoable("fund of a full purse", UndoEdgesTest::fullPurse, x -> x.fund(0, 1));
        Edges.undoable("the same reserve", LowWaterAuction::new, x -> x.setReserve(0, 20));
        Edges.undoable("the same step", LowWaterAuction::new, x -> x.setStep(5));
        Edges.undoable("the same taste", LowWaterAuction::new, x -> x.setTaste(0, 1, 50));
        Edges.undoable("the same state from a snapshot", UndoEdgesTest::saved, x -> x.restoreSnapshot(1));
    }

    private static LowWaterAuction fullPurse() {
        LowWaterAuction x = Auctions.of(M + "buyer 9999 0 1;");
        Auctions.run(x, "pay 0 9999;".repeat(10));
        return x;
    }

    private static void scripts() {
        LowWaterAuction x = new LowWaterAuction();
        String before = Auctions.state(x);
        Check.due("twenty commands", Auctions.run(x, "wait 1;pay 0 1;".repeat(10)), 20);
        Check.due("undo of twenty commands", x.undo(), 0);
        Check.due("state", Auctions.state(x), before);
        Check.due("a part of a script", Auctions.run(x, "wait 1;pay 0 1;nod 0;nod 0;pay 0 1;"), 3);
        Check.due("undo of a part", x.undo(), 0);
        Check.due("state", Auctions.state(x), before);
    }

    private static void eightChanges() {
        LowWaterAuction x = steps(8);
        for (int left = 7; left >= 0; left--) {
            Check.due("changes left", x.undo(), left);
        }
        Check.due("the first of all steps", x.step(), 5);
        Check.dueThrow("undo", Edges.ELEMENT, x::undo);
    }

    private static void nineChanges() {
        LowWaterAuction x = steps(9);
        for (int left = 7; left >= 0; left--) {
            Check.due("changes left", x.undo(), left);
        }
        Check.due("the step after the first change", x.step(), 11);
        Check.dueThrow("undo", Edges.ELEMENT, x::undo);
        Check.due("the step stays", x.step(), 11);
    }

    private static void manyChanges() {
        LowWaterAuction x = steps(40);
        for (int left = 7; left >= 0; left--) {
            Check.due("changes left", x.undo(), left);
            Check.due("step", x.step(), 42 + left);
        }
        Check.dueThrow("undo", Edges.ELEMENT, x::undo);
    }

    private static void changesAfterUndo() {
        LowWaterAuction x = steps(9);
        x.undo();
        x.undo();
        x.undo();
        for (int step = 31; step <= 33; step++) {
            x.setStep(step);
        }
        Check.due("eight changes again", x.undo(), 7);
        x.setStep(34);
        x.setStep(35);
        for (int left = 7; left >= 0; left--) {
            Check.due("changes left", x.undo(), left);
        }
        Check.due("the oldest of eight changes", x.step(), 12);
        x.setStep(36);
        Check.due("a single change", x.undo(), 0);
        Check.due("its step", x.step(), 12);
    }

    private static void whatUndoLeaves() {
        LowWaterAuction x = new LowWaterAuction();
        x.writeBarrel(0);
        Auctions.feed(x, "wait 0;");
        Check.dueThrow("a wrong script", Edges.ARGUMENT, x::runScript);
        x.setStep(6);
        x.writeBarrel(1);
        Auctions.feed(x, "wait 2;");
        x.saveSnapshot(0);
        x.undo();
        Check.due("output", Auctions.output(x), "100,90");
        Check.due("code", x.errorCode(), Edges.RANGE);
        Check.due("position", x.errorPosition(), 5);
        Check.due("buffer", x.runScript(), 1);
        Check.due("snapshot", x.restoreSnapshot(0), 0);
        Check.due("step of the snapshot", x.step(), 6);
    }

    private static void whatRestoringLeaves() {
        LowWaterAuction x = new LowWaterAuction();
        Auctions.feed(x, "pay 0 1;");
        x.saveSnapshot(0);
        Check.dueThrow("a wrong setup", Edges.ARGUMENT, x::loadSetup);
        Auctions.feed(x, "wait 7;");
        x.writeBarrel(1);
        x.saveSnapshot(1);
        x.restoreSnapshot(0);
        Check.due("output", Auctions.output(x), "100,90");
        Check.due("code", x.errorCode(), Edges.SYNTAX);
        Check.due("position", x.errorPosition(), 0);
        Check.due("buffer", x.runScript(), 1);
        Check.due("minutes of the buffer", x.minute(), 7);
        Check.due("the other snapshot", x.restoreSnapshot(1), 0);
    }

    /** What the other answers do not show, the fee, the patience, the tide and the coins put in, shows in minutes that pass. */
    private static void theWholeState() {
        LowWaterAuction x = Edges.opened();
        x.nod(2);
        x.fund(1, 500);
        x.saveSnapshot(1);
        String before = Auctions.state(x);
        load(x, "market 60 60 9 50 50;" + "buyer 1 4 1;".repeat(6) + "barrel 1 20;".repeat(20));
        x.fund(0, 9);
        x.restoreSnapshot(1);
        Check.due("restored", Auctions.state(x), before);
        x.passMinutes(40);
        String later = Auctions.state(x);
        for (int left = 6; left >= 4; left--) {
            Check.due("changes left", x.undo(), left);
        }
        Check.due("the other setup", x.barrelCount(), 20);
        Check.due("coinError of the other setup", x.coinError(), 0);
        x.undo();
        Check.due("undone", Auctions.state(x), before);
        x.passMinutes(40);
        Check.due("minutes after undo", Auctions.state(x), later);
    }

    // ---- Exceptions

    private static void refusedAmongChanges() {
        LowWaterAuction x = steps(8);
        Check.dueThrow("passMinutes", Edges.ARGUMENT, () -> x.passMinutes(0));
        Check.dueThrow("nod", Edges.STATE, () -> x.nod(0));
        Check.dueThrow("split", Edges.INDEX, () -> x.split(3, 1));
        Check.dueThrow("restoreSnapshot", Edges.ELEMENT, () -> x.restoreSnapshot(0));
        Check.dueThrow("loadSetup", Edges.ARGUMENT, x::loadSetup);
        for (int left = 7; left >= 0; left--) {
            Check.due("changes left", x.undo(), left);
        }
        Check.due("the first of all steps", x.step(), 5);
        Check.dueThrow("undo", Edges.ELEMENT, x::undo);
        Check.due("the first of all steps", x.step(), 5);
        x.setStep(9);
        Check.due("a change after a refused undo", x.undo(), 0);
    }

    private static void nothingOfThatIndex() {
        LowWaterAuction x = new LowWaterAuction();
        for (int index : new int[] {-1, 3, Edges.LEAST, Edges.MOST}) {
            Check.dueThrow("barrel " + index, Edges.INDEX, () -> x.eels(index));
            Check.dueThrow("eel " + index, Edges.INDEX, () -> x.length(0, index));
            Check.dueThrow("buyer " + index, Edges.INDEX, () -> x.purse(index));
        }
        Check.due("the last barrel", x.eels(2), 1);
        Check.due("the last eel", x.length(0, 2), 30);
        Check.due("the last buyer", x.purse(2), 300);
    }

    private static void otherArguments() {
        Edges.refused("truncate", Edges.ARGUMENT, x -> x.truncate(1));
        Edges.refused("passMinutes", Edges.ARGUMENT, x -> x.passMinutes(201));
        Edges.refused("addBarrel", Edges.ARGUMENT, x -> x.addBarrel(1, 10, 10));
        Edges.refused("split", Edges.ARGUMENT, x -> x.split(0, 9));
        Edges.refused("fund", Edges.ARGUMENT, x -> x.fund(0, 10000));
        Edges.refused("setReserve", Edges.ARGUMENT, x -> x.setReserve(0, 1000));
        Edges.refused("setStep", Edges.ARGUMENT, x -> x.setStep(51));
        Edges.refused("setTaste", Edges.ARGUMENT, x -> x.setTaste(0, 5, 1));
        Edges.refused("saveSnapshot", Edges.ARGUMENT, x -> save(x, 2));
        Edges.refused("restoreSnapshot", Edges.ARGUMENT, UndoEdgesTest::saved, x -> x.restoreSnapshot(2));
        Edges.refused("costOf", Edges.ARGUMENT, x -> x.costOf(10000));
        Edges.refused("buyerAfter", Edges.ARGUMENT, x -> x.buyerAfter(0, 501));
        Edges.refused("sellerCoinsAfter", Edges.ARGUMENT, x -> x.sellerCoinsAfter(501));
        Edges.refused("bestStep", Edges.ARGUMENT, x -> x.bestStep(501));
    }

    private static void indexFirst() {
        Edges.refused("nod: no buyer, no open barrel", Edges.INDEX, x -> x.nod(3));
        Edges.refused("split: no barrel, no eels", Edges.INDEX, x -> x.split(3, 0));
        Edges.refused("split: no barrel, twenty barrels", Edges.INDEX, Edges::twenty, x -> x.split(20, 9));
        Edges.refused("fund: no buyer, no coins", Edges.INDEX, x -> x.fund(3, 0));
        Edges.refused("setReserve: no barrel, no reserve", Edges.INDEX, x -> x.setReserve(3, 0));
        Edges.refused("setTaste: no buyer, no style, no factor", Edges.INDEX, x -> x.setTaste(3, 5, 0));
        Edges.refused("buyerAfter: no barrel, too many minutes", Edges.INDEX, x -> x.buyerAfter(3, 501));
        Edges.refused("length: neither barrel nor eel", Edges.INDEX, x -> x.length(3, 9));
        Edges.refused("worth: neither buyer nor barrel", Edges.INDEX, x -> x.worth(3, 3));
    }

    private static void argumentBeforeState() {
        Edges.refused("addBarrel: no reserve, twenty barrels", Edges.ARGUMENT, Edges::twenty, x -> x.addBarrel(0, 1, 10));
        Edges.refused("addBarrel: no eels, twenty barrels", Edges.ARGUMENT, Edges::twenty, x -> x.addBarrel(1, 0, 10));
        Edges.refused("addBarrel: length 9, twenty barrels", Edges.ARGUMENT, Edges::twenty, x -> x.addBarrel(1, 1, 9));
        Edges.refused("split: nine eels, open", Edges.ARGUMENT, Edges::opened, x -> x.split(0, 9));
        Edges.refused("split: nine eels, twenty barrels", Edges.ARGUMENT, Edges::twenty, x -> x.split(0, 9));
        Edges.refused("split: no eels, sold", Edges.ARGUMENT, Edges::sold, x -> x.split(0, 0));
        Edges.refused("setReserve: 1000, open", Edges.ARGUMENT, Edges::opened, x -> x.setReserve(0, 1000));
        Edges.refused("setReserve: 0, withdrawn", Edges.ARGUMENT, Edges::withdrawn, x -> x.setReserve(0, 0));
    }

    private static void argumentBeforeElement() {
        Edges.refused("restoreSnapshot: no slot, and no snapshot", Edges.ARGUMENT, x -> x.restoreSnapshot(-1));
        Edges.refused("restoreSnapshot: no slot, and no snapshot", Edges.ARGUMENT, x -> x.restoreSnapshot(2));
    }

    // ---- undo

    private static void latestFirst() {
        LowWaterAuction x = steps(3);
        x.undo();
        Check.due("before the third change", x.step(), 12);
        x.undo();
        Check.due("before the second change", x.step(), 11);
        x.undo();
        Check.due("before the first change", x.step(), 5);
        LowWaterAuction y = steps(3);
        y.undo();
        y.setStep(30);
        y.undo();
        Check.due("before the change after an undo", y.step(), 12);
        y.undo();
        Check.due("what was undone is not undone again", y.step(), 11);
    }

    private static void undoIsNoChange() {
        LowWaterAuction x = steps(2);
        Check.due("first undo", x.undo(), 1);
        Check.due("second undo", x.undo(), 0);
        Check.due("step", x.step(), 5);
        Check.dueThrow("an undo is not undone", Edges.ELEMENT, x::undo);
        Check.due("step", x.step(), 5);
    }

    private static void numbersOfChanges() {
        Check.due("of one", steps(1).undo(), 0);
        Check.due("of two", steps(2).undo(), 1);
        Check.due("of seven", steps(7).undo(), 6);
        Check.due("of eight", steps(8).undo(), 7);
        Check.due("of nine", steps(9).undo(), 7);
        Check.due("of twenty", steps(20).undo(), 7);
    }

    private static void nothingToUndo() {
        Edges.refused("a new object", Edges.ELEMENT, LowWaterAuction::undo);
        Edges.refused("all is undone", Edges.ELEMENT, () -> {
            LowWaterAuction x = steps(1);
            x.undo();
            return x;
        }, LowWaterAuction::undo);
    }

    // ---- snapshots

    private static void inPlaceOfEarlier() {
        LowWaterAuction x = Edges.opened();
        x.saveSnapshot(1);
        x.passMinutes(4);
        x.saveSnapshot(1);
        x.passMinutes(1);
        Check.due("the later one", x.restoreSnapshot(1), 5);
        Auctions.feed(x, M + B);
        x.loadSetup();
        x.saveSnapshot(1);
        x.undo();
        Check.due("a smaller one", x.restoreSnapshot(1), 0);
        Check.due("barrels of the smaller one", x.barrelCount(), 0);
        Check.due("queue of the smaller one", x.queueLength(), 0);
    }

    private static void twoSlots() {
        LowWaterAuction x = Edges.opened();
        x.saveSnapshot(0);
        x.passMinutes(1);
        x.saveSnapshot(1);
        x.passMinutes(1);
        Check.due("slot 0", x.restoreSnapshot(0), 1);
        Check.due("slot 1", x.restoreSnapshot(1), 2);
    }

    private static void savingIsNoChange() {
        LowWaterAuction x = new LowWaterAuction();
        x.saveSnapshot(0);
        Check.dueThrow("undo after saving", Edges.ELEMENT, x::undo);
        LowWaterAuction y = steps(8);
        y.saveSnapshot(0);
        y.saveSnapshot(1);
        Check.due("undo after eight changes and saving", y.undo(), 7);
        Check.due("step", y.step(), 17);
    }

    private static void wrongSlotsToSave() {
        for (int slot : new int[] {-1, 2, Edges.LEAST, Edges.MOST}) {
            Edges.refused("slot " + slot, Edges.ARGUMENT, x -> save(x, slot));
        }
        Check.due("slot 0", save(new LowWaterAuction(), 0), "saved");
        Check.due("slot 1", save(new LowWaterAuction(), 1), "saved");
    }

    private static void smallerAndGreaterStates() {
        LowWaterAuction x = Auctions.of(M + B);
        String least = Auctions.state(x);
        x.saveSnapshot(0);
        load(x, M + B.repeat(6) + "barrel 1 10;".repeat(20));
        String most = Auctions.state(x);
        x.saveSnapshot(1);
        x.restoreSnapshot(0);
        Check.due("one buyer and no barrel", Auctions.state(x), least);
        x.restoreSnapshot(1);
        Check.due("six buyers and twenty barrels", Auctions.state(x), most);
    }

    private static void snapshotStays() {
        LowWaterAuction x = saved();
        String before = Auctions.state(x);
        x.passMinutes(30);
        x.restoreSnapshot(0);
        Check.due("first time", Auctions.state(x), before);
        x.passMinutes(30);
        x.restoreSnapshot(0);
        Check.due("second time", Auctions.state(x), before);
    }

    private static void restoringIsUndoable() {
        LowWaterAuction x = saved();
        x.passMinutes(30);
        String later = Auctions.state(x);
        x.restoreSnapshot(0);
        Check.due("undo", x.undo(), 2);
        Check.due("state", Auctions.state(x), later);
        Check.due("the snapshot stays after undo", x.restoreSnapshot(0), 1);
    }

    private static void restoredMinutes() {
        LowWaterAuction x = new LowWaterAuction();
        x.saveSnapshot(0);
        x.passMinutes(200);
        x.saveSnapshot(1);
        Check.due("minute 0", x.restoreSnapshot(0), 0);
        Check.due("minute 200", x.restoreSnapshot(1), 200);
        Check.due("minute", x.minute(), 200);
    }

    private static void wrongSlotsToRestore() {
        for (int slot : new int[] {-1, 2, Edges.LEAST, Edges.MOST}) {
            Edges.refused("slot " + slot, Edges.ARGUMENT, UndoEdgesTest::saved, x -> x.restoreSnapshot(slot));
        }
    }

    private static void emptySlots() {
        Edges.refused("slot 0", Edges.ELEMENT, x -> x.restoreSnapshot(0));
        Edges.refused("slot 1", Edges.ELEMENT, x -> x.restoreSnapshot(1));
        LowWaterAuction x = new LowWaterAuction();
        x.saveSnapshot(0);
        Check.dueThrow("only slot 0 was saved", Edges.ELEMENT, () -> x.restoreSnapshot(1));
        LowWaterAuction y = new LowWaterAuction();
        y.saveSnapshot(1);
        Check.dueThrow("only slot 1 was saved", Edges.ELEMENT, () -> y.restoreSnapshot(0));
        Check.due("slot 1 was saved", y.restoreSnapshot(1), 0);
    }
}
