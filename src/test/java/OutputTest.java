/** Promises 60 to 65: checks and output. */
final class OutputTest {
    private static final int NONE = LowWaterAuction.NONE;
    private static final String NO_BARRELS = "market 5 5 1 1 0;buyer 0 0 1;";

    private OutputTest() {
    }

    public static void main(String[] args) {
        coinError();
        shares();
        writeBarrel();
        writeQueue();
        outputByte();
        Check.finish();
    }

    private static void coinError() {
        LowWaterAuction x = new LowWaterAuction();
        Check.due("60 at the beginning", x.coinError(), 0);
        x.saveSnapshot(0);
        for (int i = 0; i < 12; i++) {
            x.fund(0, 9999);
        }
        Check.due("60 after coins that were not put in", x.coinError(), 0);
        x.passMinutes(30);
        Check.due("60 after sales", x.coinError(), 0);
        x.undo();
        x.undo();
        Check.due("60 after undo", x.coinError(), 0);
        x.restoreSnapshot(0);
        Check.due("60 after restoring", x.coinError(), 0);
        Auctions.feed(x, NO_BARRELS + "buyer 77 0 1;");
        x.loadSetup();
        Check.due("60 after a setup", x.coinError(), 0);
        Auctions.run(x, "pay 0 9;");
        Check.due("60 after a script", x.coinError(), 0);
    }

    private static void shares() {
        LowWaterAuction x = new LowWaterAuction();
        Check.due("61 mean length", x.meanLength(), 330.0 / 6.0);
        Check.due("62 nothing sold", x.soldShare(), 0.0f);
        x.passMinutes(4);
        Check.due("62 one of three", x.soldShare(), 1.0f / 3.0f);
        x.passMinutes(4);
        Check.due("62 two of three", x.soldShare(), 2.0f / 3.0f);
        Check.due("61 sold barrels count", x.meanLength(), 55.0);
        x.withdraw(2);
        Check.due("61 withdrawn barrels count", x.meanLength(), 55.0);
        Check.due("62 withdrawn barrels count", x.soldShare(), 2.0f / 3.0f);
        x.addBarrel(1, 1, 10);
        Check.due("61 mean length", x.meanLength(), 340.0 / 7.0);
        Check.due("62 two of four", x.soldShare(), 0.5f);
        LowWaterAuction full = Auctions.of("market 60 60 1 1 0;buyer 99 2 999;" + "barrel 1 10 20;".repeat(20));
        full.passMinutes(6);
        Check.due("61 twenty barrels", full.meanLength(), 15.0);
        Check.due("62 two of twenty", full.soldShare(), 0.1f);
        LowWaterAuction none = Auctions.of(NO_BARRELS);
        Check.due("61 no barrels", none.meanLength(), 0.0);
        Check.due("62 no barrels", none.soldShare(), 0.0f);
    }

    private static void writeBarrel() {
        LowWaterAuction x = new LowWaterAuction();
        wrote("63 waiting", x, x.writeBarrel(0), "40,55,30");
        wrote("63 one eel", x, x.writeBarrel(2), "15");
        x.passMinutes(2);
        wrote("63 open", x, x.writeBarrel(0), "40,55,30?");
        x.passMinutes(2);
        wrote("63 sold", x, x.writeBarrel(0), "40,55,30=20");
        x.withdraw(1);
        wrote("63 withdrawn", x, x.writeBarrel(1), "100,90x");
        Check.dueThrow("63 no such barrel", IndexOutOfBoundsException.class, () -> x.writeBarrel(3));
        Check.due("63 an exception leaves the text", Auctions.output(x), "100,90x");
        x.passMinutes(3);
        wrote("63 returned", x, x.writeBarrel(2), "15");
        x.addBarrel(1, 9, 150);
        wrote("63 nine eels", x, x.writeBarrel(3), "150,150,150,150,150,150,150,150,150");
        LowWaterAuction y = Auctions.of("market 60 60 1 50 50;buyer 9999 1 999;buyer 9999 1 999;barrel 999 150 150 150 150;");
        y.passMinutes(200);
        Check.due("43 a price of four digits", y.priceOf(0) > 999, true);
        wrote("63 a price of four digits", y, y.writeBarrel(0), "150,150,150,150=" + y.priceOf(0));
        Check.due("63 writing is no change", y.undo(), 1);
    }

    private static void writeQueue() {
        LowWaterAuction x = new LowWaterAuction();
        wrote("64 queue", x, x.writeQueue(), "0,1,2");
        x.withdraw(1);
        wrote("64 queue", x, x.writeQueue(), "0,2");
        x.withdraw(2);
        wrote("64 one barrel", x, x.writeQueue(), "0");
        x.passMinutes(1);
        wrote("64 empty queue", x, x.writeQueue(), "");
        for (int i = 3; i < 20; i++) {
            x.addBarrel(1, 1, 10);
        }
        wrote("64 many barrels", x, x.writeQueue(), "3,4,5,6,7,8,9,10,11,12,13,14,15,16,17,18,19");
        x.undo();
        Check.due("64 undo leaves the text", x.outputByte(42), (int) '9');
    }

    private static void outputByte() {
        LowWaterAuction x = new LowWaterAuction();
        Check.due("65 empty text", x.outputByte(0), NONE);
        x.writeBarrel(1);
        Check.due("65 first byte", x.outputByte(0), 49);
        Check.due("65 comma", x.outputByte(3), 44);
        Check.due("65 last byte", x.outputByte(5), 48);
        Check.due("65 behind the text", x.outputByte(6), NONE);
        Check.due("65 negative", x.outputByte(-1), NONE);
        Check.due("65 far away", x.outputByte(Integer.MAX_VALUE), NONE);
        Check.due("65 far away", x.outputByte(Integer.MIN_VALUE), NONE);
        x.passMinutes(5);
        x.writeBarrel(0);
        Check.due("65 equals sign", x.outputByte(8), 61);
        x.writeBarrel(1);
        Check.due("65 question mark", x.outputByte(6), 63);
        x.withdraw(2);
        x.writeBarrel(2);
        Check.due("65 x", x.outputByte(2), 120);
        Check.due("65 the previous text is gone", x.outputByte(3), NONE);
    }

    private static void wrote(String what, LowWaterAuction x, int length, String text) {
        Check.due(what + ", length", length, text.length());
        Check.due(what, Auctions.output(x), text);
    }
}
