import java.util.NoSuchElementException;

/** Promise 1, a new object, and promise 6, loadSetup, with the grammar of a setup. */
final class SetupTest {
    private static final String M = "market 5 5 1 1 0;";
    private static final String B = "buyer 0 0 1;";
    private static final String NINE = " 10 10 10 10 10 10 10 10 10";

    private SetupTest() {
    }

    public static void main(String[] args) {
        newObject();
        goodSetup();
        replacesState();
        keepsNothing();
        spacing();
        edges();
        syntaxErrors();
        rangeErrors();
        limitErrors();
        Check.finish();
    }

    private static void newObject() {
        LowWaterAuction x = new LowWaterAuction();
        Check.due("1 state", Auctions.state(x),
            "minute 0 open true horn 12 step 5 fee 110 sellers 0 house 0 error 0"
            + " barrel -1 bid -1 leader -1 next -1 quiet -1 queue [0, 1, 2]"
            + "\nbarrel [40, 55, 30] 20 0 0 -1 -1"
            + "\nbarrel [100, 90] 50 0 0 -1 -1"
            + "\nbarrel [15] 10 0 0 -1 -1"
            + "\nbuyer 200 1 50 0 0\nbuyer 90 2 60 0 0\nbuyer 300 0 1 0 0");
        Check.dueThrow("1 empty buffer", IllegalArgumentException.class, () -> x.truncate(1));
        Check.due("1 empty output", x.outputByte(0), LowWaterAuction.NONE);
        Check.dueThrow("1 no snapshot 0", NoSuchElementException.class, () -> x.restoreSnapshot(0));
        Check.dueThrow("1 no snapshot 1", NoSuchElementException.class, () -> x.restoreSnapshot(1));
        Check.dueThrow("1 no change", NoSuchElementException.class, x::undo);
        // The patience of two and the period of twenty show only in minutes that pass.
        x.passMinutes(10);
        Check.due("1 patience", x.quiet(), 1);
        x.passMinutes(1);
        Check.due("1 patience", x.returns(2), 1);
        x.passMinutes(8);
        Check.due("1 period", x.isOpen(), false);
        x.passMinutes(1);
        Check.due("1 period", x.isOpen(), true);
        LowWaterAuction y = new LowWaterAuction();
        Check.due("1 objects share nothing", y.minute(), 0);
    }

    private static void goodSetup() {
        LowWaterAuction x = new LowWaterAuction();
        Auctions.feed(x, "market 7 3 4 6 25; buyer 1 2 3; buyer 40 4 600; barrel 9 11 12; barrel 8 13;");
        Check.due("6 number of barrels", x.loadSetup(), 2);
        Check.due("6 state", Auctions.state(x),
            "minute 0 open true horn 3 step 6 fee 125 sellers 0 house 0 error 0"
            + " barrel -1 bid -1 leader -1 next -1 quiet -1 queue [0, 1]"
            + "\nbarrel [11, 12] 9 0 0 -1 -1\nbarrel [13] 8 0 0 -1 -1"
            + "\nbuyer 1 2 3 0 0\nbuyer 40 4 600 0 0");
        Check.dueThrow("6 the buffer is empty", IllegalArgumentException.class, () -> x.truncate(1));
        x.passMinutes(2);
        Check.due("6 quiet of the opened barrel", x.quiet(), 1);
        Auctions.feed(x, M + B);
        Check.due("6 no barrels", x.loadSetup(), 0);
        Check.due("6 no barrels in the queue", x.queueLength(), 0);
    }

    private static void replacesState() {
        LowWaterAuction x = new LowWaterAuction();
        x.passMinutes(2);
        x.fund(0, 5);
        x.saveSnapshot(1);
        String before = Auctions.state(x);
        Auctions.feed(x, M + B + B);
        x.loadSetup();
        Check.due("6 minute", x.minute(), 0);
        Check.due("6 open barrel", x.openBarrel(), LowWaterAuction.NONE);
        Check.due("6 bid", x.bid(), LowWaterAuction.NONE);
        Check.due("6 nods", x.nods(0), 0);
        Check.due("6 coins", x.coinError(), 0);
        Check.due("6 loadSetup can be undone", x.undo(), 2);
        Check.due("6 state after undo", Auctions.state(x), before);
        Check.due("6 earlier changes stay", x.undo(), 1);
        Auctions.feed(x, M + B);
        x.loadSetup();
        Check.due("6 snapshots stay", x.restoreSnapshot(1), 2);
        Check.due("6 state of the snapshot", Auctions.state(x), before);
        Auctions.feed(x, "market");
        Check.dueThrow("6 error", IllegalArgumentException.class, x::loadSetup);
        Check.due("6 an error is no change", x.undo(), 2);
    }

    /** A state that is put in place of another one must keep nothing of it, forecasts and wrong texts included. */
    private static void keepsNothing() {
        LowWaterAuction x = new LowWaterAuction();
        x.sellerCoinsAfter(6);
        Auctions.feed(x, "market 9 9 1 1 0;" + B + B + "barrel 7 70;barrel 8 80;barrel 9");
        Check.dueThrow("6 wrong setup", IllegalArgumentException.class, x::loadSetup);
        x.buyerAfter(0, 6);
        String fresh = "market 20 12 2 5 10; buyer 200 1 50; buyer 90 2 60; buyer 300 0 1;"
            + "barrel 20 40 55 30; barrel 50 100 90; barrel 10 15;";
        Auctions.feed(x, fresh);
        x.loadSetup();
        Check.due("6 nothing of a forecast stays", Auctions.state(x), Auctions.state(new LowWaterAuction()));
        x.addBarrel(1, 9, 99);
        x.passMinutes(40);
        x.undo();
        x.undo();
        x.addBarrel(1, 1, 20);
        Check.due("10 a new barrel in place of an undone one", x.stateOf(3), 0);
        Check.due("10 a new barrel in place of an undone one", x.priceOf(3), LowWaterAuction.NONE);
        Check.due("10 a new barrel in place of an undone one", Auctions.lengths(x, 3), "[20]");
        Check.due("10 a new barrel in place of an undone one", x.greatestLength(3), 20);
    }

    private static void spacing() {
        LowWaterAuction x = new LowWaterAuction();
        String tight = "market5 5 1 1 0;buyer0 0 1;barrel1 10;";
        Auctions.feed(x, tight);
        Check.due("6 no spaces", x.loadSetup(), 1);
        String state = Auctions.state(x);
        Auctions.feed(x, "  market  0005 05   1 1 00000000000000000000000  ; buyer 0 0 01 ; barrel 1 0000000000000010 ;  ");
        Check.due("6 spaces and zeros", x.loadSetup(), 1);
        Check.due("6 spaces and zeros mean nothing", Auctions.state(x), state);
    }

    private static void edges() {
        LowWaterAuction x = new LowWaterAuction();
        Auctions.feed(x, "market 60 60 9 50 50;" + Texts.times(6, "buyer 9999 4 999;")
            + "barrel 999 150 150 150 150 150 150 150 150 150;");
        Check.due("6 greatest numbers", x.loadSetup(), 1);
        Check.due("6 six buyers", x.buyerCount(), 6);
        Check.due("6 nine eels", x.eels(0), 9);
        Check.due("6 purse", x.purse(5), 9999);
        Check.due("6 fee", x.costOf(100), 150);
        Auctions.feed(x, "market 5 1 1 1 0;buyer 0 0 1;" + Texts.times(20, "barrel 1 10;"));
        Check.due("6 smallest numbers, twenty barrels", x.loadSetup(), 20);
        Check.due("6 queue", Auctions.queue(x),
            "[0, 1, 2, 3, 4, 5, 6, 7, 8, 9, 10, 11, 12, 13, 14, 15, 16, 17, 18, 19]");
    }

    private static void syntaxErrors() {
        String[] marked = {
            "|", "   |", "|;", "|5", "|markets 5 5 1 1 0;", "|marke 5 5 1 1 0;", "|zarket 5 5 1 1 0;",
            "|marketz 5 5 1 1 0;", "market|A 5 5 1 1 0;", "market|{ 5 5 1 1 0;", "market 5|/ 5 1 1 0;", "market 5|: 5 1 1 0;", "|mar ket 5 5 1 1 0;", "|Market 5 5 1 1 0;",
            "market|", "market |", "market |x", "market|;", "market |-5 5 1 1 0;", "market|\t5 5 1 1 0;",
            "market 5 5 1 1 |;", "market 5 5 1 1 0 |0;", "market 5 5 1 1 0|", "market 5 5 1 1 0|buyer",
            M + "|", M + "|barrel 1 10;", M + "|;", M + "|buyers 0 0 1;", M + "buyer 0 0 |;", M + "buyer 0 0 1|",
            M + "buyer 0 0 1 |1;", M + B + "buyer 0 0|", M + B + "|puyer 0 0 1;",
            M + "buyer 0 0|", M + B + "buyer|", M + B + "|nod 1;", M + B + "|;", M + B + "|1", M + B + "|barrels 1 10;",
            M + B + "|market 5 5 1 1 0;", M + B + "|#", M + B + "|" + (char) 233, M + B + "|" + (char) 0,
            M + B + "barrel|", M + B + "barrel |;", M + B + "barrel 1 |;", M + B + "barrel 1|", M + B + "barrel 1 10|",
            M + B + "barrel 1 10 |x;", M + B + "barrel 1 10|, 10;",
            M + B + "barrel 1 10;|buyer 0 0 1;", M + Texts.times(6, B) + "barrel 1 10;|buyer 0 0 1;",
            M + Texts.times(6, B) + "|buyers 0 0 1;", M + B + Texts.times(20, "barrel 1 10;") + "|barrelx",
            M + B + "barrel 1" + NINE + "|x", M + B + "barrel 1" + NINE + "|",
        };
        Texts.badSetups(Texts.SYNTAX, marked);
    }

    private static void rangeErrors() {
        String[] marked = {
            "market |4 4 1 1 0;", "market |61 5 1 1 0;", "market 5 |0 1 1 0;", "market 5 |6 1 1 0;",
            "market 60 |61 1 1 0;", "market 5 5 |0 1 0;", "market 5 5 |10 1 0;", "market 5 5 1 |0 0;",
            "market 5 5 1 |51 0;", "market 5 5 1 1 |51;", "market |99999999999999999999999999 5 1 1 0;",
            "market |4294967301 5 1 1 0;", "market |18446744073709551621 5 1 1 0;", "market |0", "market |4 x",
            M + "buyer |10000 0 1;", M + "buyer 0 |5 1;", M + "buyer 0 0 |0;", M + "buyer 0 0 |1000;",
            M + B + "barrel |0 10;", M + B + "barrel |1000 10;", M + B + "barrel 1 |9;", M + B + "barrel 1 |151;",
            M + B + "barrel 1 10 |9;", M + B + "barrel 1" + NINE + " |9;", M + B + "barrel 1" + NINE + " |151;",
        };
        Texts.badSetups(Texts.RANGE, marked);
    }

    private static void limitErrors() {
        Texts.badSetups(Texts.LIMIT, M + Texts.times(6, B) + "|buyer 0 0 1;");
        Texts.badSetups(Texts.LIMIT, M + Texts.times(6, B) + " |buyer");
        Texts.badSetups(Texts.LIMIT, M + B + Texts.times(20, "barrel 1 10;") + "|barrel 1 10;");
        Texts.badSetups(Texts.LIMIT, M + B + Texts.times(20, "barrel 1 10;") + "|barrel 0");
        Texts.badSetups(Texts.LIMIT, M + B + "barrel 1" + NINE + " |10;");
        Texts.badSetups(Texts.LIMIT, M + B + "barrel 1" + NINE + " |150 x");
    }
}
