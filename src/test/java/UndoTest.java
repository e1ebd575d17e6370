import java.util.NoSuchElementException;

/** Promises 17 to 19: undo, saveSnapshot, restoreSnapshot. */
final class UndoTest {
    private UndoTest() {
    }

    public static void main(String[] args) {
        everyChange();
        eightChanges();
        whatUndoLeaves();
        snapshots();
        Check.finish();
    }

    private static void everyChange() {
        Edges.Call[] changes = {
            x -> x.passMinutes(30), x -> x.nod(0), x -> x.addBarrel(3, 2, 80), x -> x.split(1, 1),
            x -> x.withdraw(1), x -> x.fund(1, 70), x -> x.setReserve(2, 77), x -> x.setStep(8),
            x -> x.setTaste(0, 4, 900), x -> x.restoreSnapshot(0), x -> Auctions.run(x, "wait 9; pay 0 4;"),
            UndoTest::load, x -> x.setStep(5), x -> Auctions.run(x, ""),
        };
        for (int i = 0; i < changes.length; i++) {
            LowWaterAuction x = new LowWaterAuction();
            x.saveSnapshot(0);
            x.passMinutes(2);
            x.nod(2);
            String before = Auctions.state(x);
            changes[i].on(x);
            Check.due("17 changes left after change " + i, x.undo(), 2);
            Check.due("17 state after change " + i, Auctions.state(x), before);
        }
    }

    private static int load(LowWaterAuction x) {
        Auctions.feed(x, "market 60 60 9 50 50;buyer 1 1 1;barrel 5 50;");
        return x.loadSetup();
    }

    private static void eightChanges() {
        LowWaterAuction x = new LowWaterAuction();
        Check.dueThrow("17 no change yet", NoSuchElementException.class, x::undo);
        for (int i = 1; i <= 10; i++) {
            x.setStep(10 + i);
        }
        for (int left = 7; left >= 0; left--) {
            Check.due("17 changes left", x.undo(), left);
            Check.due("17 step", x.step(), 13 + left - 1);
        }
        Check.dueThrow("17 only eight changes", NoSuchElementException.class, x::undo);
        Check.due("17 nothing more is undone", x.step(), 12);
        x.setStep(30);
        x.setStep(31);
        Check.due("17 undo is no change", x.undo(), 1);
        x.setStep(32);
        Check.due("17 the latest change", x.undo(), 1);
        Check.due("17 the latest change", x.step(), 30);
        Check.due("17 the change before", x.undo(), 0);
        Check.due("17 the change before", x.step(), 12);
    }

    private static void whatUndoLeaves() {
        LowWaterAuction x = new LowWaterAuction();
        x.setStep(6);
        x.writeQueue();
        x.saveSnapshot(1);
        Auctions.feed(x, "wait 0;");
        Check.dueThrow("7 wrong script", IllegalArgumentException.class, x::runScript);
        Auctions.feed(x, "wait 1;");
        x.undo();
        Check.due("17 undo leaves the output", Auctions.output(x), "0,1,2");
        Check.due("17 undo leaves the error", x.errorCode(), LowWaterAuction.RANGE);
        Check.due("17 undo leaves the error", x.errorPosition(), 5);
        Check.due("17 undo leaves the buffer", x.runScript(), 1);
        Check.due("17 undo leaves the snapshots", x.restoreSnapshot(1), 0);
        Check.due("17 undo leaves the snapshots", x.step(), 6);
        x.undo();
        Check.due("17 the state before restoring", x.minute(), 1);
    }

    private static void snapshots() {
        LowWaterAuction x = new LowWaterAuction();
        Class<? extends RuntimeException> argument = IllegalArgumentException.class;
        Check.dueThrow("18 slot 2", argument, () -> save(x, 2));
        Check.dueThrow("18 slot -1", argument, () -> save(x, -1));
        Check.dueThrow("19 slot 2", argument, () -> x.restoreSnapshot(2));
        Check.dueThrow("19 slot -1", argument, () -> x.restoreSnapshot(-1));
        Check.dueThrow("19 empty slot", NoSuchElementException.class, () -> x.restoreSnapshot(0));
        Check.dueThrow("19 empty slot is no change", NoSuchElementException.class, x::undo);
        x.passMinutes(3);
        String three = Auctions.state(x);
        x.saveSnapshot(0);
        Check.dueThrow("18 the other slot is empty", NoSuchElementException.class, () -> x.restoreSnapshot(1));
        x.passMinutes(20);
        x.addBarrel(1, 1, 10);
        x.saveSnapshot(1);
        String more = Auctions.state(x);
        Check.due("18 saving is no change", x.undo(), 2);
        Check.due("19 minute of slot 0", x.restoreSnapshot(0), 3);
        Check.due("19 state of slot 0", Auctions.state(x), three);
        x.setStep(44);
        x.fund(0, 99);
        Check.due("19 minute of slot 1", x.restoreSnapshot(1), 23);
        Check.due("19 state of slot 1", Auctions.state(x), more);
        Check.due("19 the snapshot stays", x.restoreSnapshot(0), 3);
        Check.due("19 the snapshot is as it was", Auctions.state(x), three);
        Check.due("19 restoring can be undone", x.undo(), 6);
        Check.due("19 state after undoing it", Auctions.state(x), more);
        x.saveSnapshot(0);
        Check.due("18 in place of the earlier one", x.restoreSnapshot(0), 23);
        x.writeQueue();
        String output = Auctions.output(x);
        Auctions.feed(x, "wait 1;");
        x.restoreSnapshot(0);
        Check.due("19 restoring leaves the output", Auctions.output(x), output);
        Check.due("19 restoring leaves the buffer", x.truncate(7), 7);
    }

    private static int save(LowWaterAuction x, int slot) {
        x.saveSnapshot(slot);
        return slot;
    }
}
