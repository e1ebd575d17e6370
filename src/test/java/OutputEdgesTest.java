/** The boundary cases of promises 60 to 65, checks and output: each sentence has tests of its own. */
final class OutputEdgesTest {
    private static final int NONE = Edges.NONE;
    private static final String M = Edges.MARKET;
    private static final String B = Edges.BUYER;
    private static final String EEL = Edges.EEL;
    private static final String KEEN = "market 60 60 1 1 0;buyer 9999 2 999;";

    private OutputEdgesTest() {
    }

    public static void main(String[] args) {
        shares();
        writing();
        bytes();
        Check.finish();
    }

    private static void shares() {
        Edges.holds("60", "Returns the purses of the setup, plus the coins that were put in by fund, minus all purses, minus the"
            + " coins of the sellers and of the house; this is always 0.", OutputEdgesTest::coinsOfFullPurses,
            OutputEdgesTest::coinsOfSales, OutputEdgesTest::coinsOfOtherStates);
        Edges.holds("61", "Returns (double) (sum of the lengths of all eels) / (double) (number of all eels); 0.0 if there are no"
            + " barrels.", OutputEdgesTest::meanOfNone, OutputEdgesTest::meanOfAll);
        Edges.holds("62", "Returns (float) (sold barrels) / (float) (number of barrels); 0.0f if there are none.",
            OutputEdgesTest::shareOfNone, OutputEdgesTest::shareOfAll);
    }

    private static void writing() {
        Edges.holds("63", "Writes a barrel to the output text, replacing the previous text: the lengths of its eels in decimal with"
            + " a comma (byte 44) between two; then an equals sign (byte 61) and the price in decimal if it is sold, or a question"
            + " mark (byte 63) if it is open, or an x (byte 120) if it is withdrawn.", OutputEdgesTest::oneAndNineEels,
            OutputEdgesTest::eachState, OutputEdgesTest::shortAndLongPrices, OutputEdgesTest::barrelAfterLongerText);
        Edges.holds("63", "Returns the length of the output text.", OutputEdgesTest::lengthsOfBarrels);
        Edges.holds("63", "Throws `IndexOutOfBoundsException` if the barrel does not exist", OutputEdgesTest::noBarrel);
        Edges.holds("64", "Writes the queue to the output text, replacing the previous text: the indexes of the waiting barrels in"
            + " the order of the queue, in decimal, with a comma (byte 44) between two.", OutputEdgesTest::emptyQueue,
            OutputEdgesTest::fullQueue, OutputEdgesTest::orderOfTheQueue);
        Edges.holds("64", "Returns the length of the output text.", OutputEdgesTest::lengthsOfQueues);
    }

    private static void bytes() {
        Edges.holds("65", "Returns the byte; NONE if index is negative or not less than the length of the text.",
            OutputEdgesTest::bytesOfNoText, OutputEdgesTest::firstAndLastByte, OutputEdgesTest::bytesOfEarlierText);
    }

    // ---- checks

    private static void coinsOfFullPurses() {
        LowWaterAuction x = Auctions.of(M + "buyer 9999 0 1;".repeat(6));
        for (int i = 0; i < 10; i++) {
            for (int buyer = 0; buyer < 6; buyer++) {
                x.fund(buyer, 9999);
                Check.due("after fund", x.coinError(), 0);
            }
        }
        Check.due("a full purse", x.purse(5), 99999);
        Auctions.run(x, "pay 5 9999;pay 0 1;");
        Check.due("after pay", x.coinError(), 0);
    }

    private static void coinsOfSales() {
        LowWaterAuction x = Auctions.of("market 60 60 1 1 50;buyer 3 2 999;" + EEL + "barrel 2 10;");
        for (int minute = 1; minute <= 8; minute++) {
            x.passMinutes(1);
            Check.due("minute " + minute, x.coinError(), 0);
        }
        Check.due("a purse that could pay only one of two", x.purse(0), 2);
        LowWaterAuction y = Auctions.of("market 60 60 1 1 50;buyer 4 2 999;" + EEL + "barrel 2 10;");
        y.passMinutes(8);
        Check.due("a purse that could just pay both", y.purse(0), 0);
        Check.due("coins of the house", y.houseCoins(), 1);
        Check.due("after the last coin", y.coinError(), 0);
    }

    private static void coinsOfOtherStates() {
        LowWaterAuction x = new LowWaterAuction();
        Check.due("at first", x.coinError(), 0);
        x.fund(0, 9999);
        x.saveSnapshot(0);
        x.undo();
        Check.due("after undo", x.coinError(), 0);
        Auctions.feed(x, M + "buyer 0 0 1;");
        x.loadSetup();
        Check.due("after a setup with an empty purse", x.coinError(), 0);
        x.restoreSnapshot(0);
        Check.due("after restoring", x.coinError(), 0);
        Check.due("the purse", x.purse(0), 10199);
    }

    private static void meanOfNone() {
        Check.due("no barrels", Auctions.of(M + B).meanLength(), 0.0);
    }

    private static void meanOfAll() {
        Check.due("the least", Auctions.of(M + B + EEL).meanLength(), 10.0);
        LowWaterAuction x = Auctions.of(M + B);
        for (int i = 0; i < 20; i++) {
            x.addBarrel(1, 9, 150);
        }
        Check.due("the greatest", x.meanLength(), 150.0);
        LowWaterAuction y = Auctions.of(M + B + "barrel 1 10;barrel 1 20 21;");
        Check.due("no integer", y.meanLength(), 51.0 / 3.0);
        y.addBarrel(1, 4, 11);
        Check.due("no integer", y.meanLength(), 95.0 / 7.0);
        y.withdraw(0);
        Check.due("withdrawn eels count", y.meanLength(), 95.0 / 7.0);
        y.split(1, 1);
        Check.due("split eels count once", y.meanLength(), 95.0 / 7.0);
        Check.due("sold eels count", Edges.sold().meanLength(), 55.0);
    }

    private static void shareOfNone() {
        Check.due("no barrels", Auctions.of(M + B).soldShare(), 0.0f);
        Check.due("none sold", new LowWaterAuction().soldShare(), 0.0f);
        Check.due("an open one", Edges.opened().soldShare(), 0.0f);
        Check.due("a withdrawn one", Edges.withdrawn().soldShare(), 0.0f);
    }

    private static void shareOfAll() {
        LowWaterAuction x = Auctions.of(KEEN + EEL.repeat(20));
        x.passMinutes(3);
        Check.due("one of twenty", x.soldShare(), 1.0f / 20.0f);
        x.passMinutes(54);
        Check.due("nineteen of twenty", x.soldShare(), 19.0f / 20.0f);
        x.passMinutes(3);
        Check.due("all of twenty", x.soldShare(), 1.0f);
        Check.due("one of three", Edges.sold().soldShare(), 1.0f / 3.0f);
    }

    // ---- writing

    private static void dueText(String what, LowWaterAuction x, int length, String text) {
        Check.due(what, Auctions.output(x), text);
        Check.due(what + ", length", length, text.length());
    }

    private static void oneAndNineEels() {
        LowWaterAuction x = Auctions.of(M + B + EEL + "barrel 1 10 99 100 150 10 99 100 150 10;");
        dueText("one eel", x, x.writeBarrel(0), "10");
        dueText("nine eels", x, x.writeBarrel(1), "10,99,100,150,10,99,100,150,10");
    }

    private static void eachState() {
        LowWaterAuction waiting = new LowWaterAuction();
        dueText("waiting", waiting, waiting.writeBarrel(0), "40,55,30");
        LowWaterAuction open = Edges.opened();
        dueText("open", open, open.writeBarrel(0), "40,55,30?");
        open.nod(0);
        dueText("open, with a bid", open, open.writeBarrel(0), "40,55,30?");
        LowWaterAuction sold = Edges.sold();
        dueText("sold", sold, sold.writeBarrel(0), "40,55,30=20");
        LowWaterAuction withdrawn = Edges.withdrawn();
        dueText("withdrawn", withdrawn, withdrawn.writeBarrel(0), "40,55,30x");
        LowWaterAuction returned = Edges.after(Auctions.of("market 60 60 1 1 0;" + B + EEL), 2);
        dueText("returned", returned, returned.writeBarrel(0), "10");
        returned.passMinutes(4);
        dueText("withdrawn by returns", returned, returned.writeBarrel(0), "10x");
        Check.due("comma", sold.outputByte(2), 44);
        Check.due("equals sign", sold.outputByte(8), 61);
        Check.due("question mark", open.outputByte(8), 63);
        Check.due("x", withdrawn.outputByte(8), 120);
    }

    private static void shortAndLongPrices() {
        LowWaterAuction x = Edges.after(Auctions.of(KEEN + EEL), 3);
        dueText("a price of 1", x, x.writeBarrel(0), "10=1");
        LowWaterAuction y = Auctions.of("market 60 60 1 1 0;buyer 9999 3 999;barrel 999 150;");
        y.passMinutes(3);
        dueText("a price of 999", y, y.writeBarrel(0), "150=999");
        LowWaterAuction z = Auctions.of("market 60 60 1 50 0;buyer 9999 0 1;buyer 9999 0 1;barrel 999 150;");
        z.passMinutes(1);
        z.nod(0);
        z.nod(1);
        z.passMinutes(1);
        dueText("a price of 1049", z, z.writeBarrel(0), "150=1049");
    }

    private static void barrelAfterLongerText() {
        LowWaterAuction x = new LowWaterAuction();
        x.writeBarrel(0);
        dueText("a shorter text", x, x.writeBarrel(2), "15");
        dueText("the same again", x, x.writeBarrel(2), "15");
        dueText("a longer text", x, x.writeBarrel(1), "100,90");
        x.writeQueue();
        dueText("after the queue", x, x.writeBarrel(2), "15");
    }

    private static void lengthsOfBarrels() {
        LowWaterAuction x = Auctions.of(M + B + EEL);
        Check.due("the least", x.writeBarrel(0), 2);
        x.addBarrel(1, 9, 150);
        Check.due("nine eels of three digits", x.writeBarrel(1), 35);
    }

    private static void noBarrel() {
        for (int barrel : new int[] {-1, 3, 20, Edges.LEAST, Edges.MOST}) {
            Edges.refused("barrel " + barrel, Edges.INDEX, x -> x.writeBarrel(barrel));
        }
        LowWaterAuction x = new LowWaterAuction();
        x.writeBarrel(1);
        Check.dueThrow("barrel 3", Edges.INDEX, () -> x.writeBarrel(3));
        Check.due("the text stays", Auctions.output(x), "100,90");
        Edges.refused("no barrel at all", Edges.INDEX, () -> Auctions.of(M + B), y -> y.writeBarrel(0));
    }

    private static void emptyQueue() {
        LowWaterAuction x = Auctions.of(M + B);
        dueText("no barrels", x, x.writeQueue(), "");
        LowWaterAuction y = Edges.after(Auctions.of(M + B + EEL), 1);
        y.writeBarrel(0);
        dueText("the only barrel is open", y, y.writeQueue(), "");
        Check.due("no byte", y.outputByte(0), NONE);
    }

    private static void fullQueue() {
        LowWaterAuction x = Edges.twenty();
        dueText("twenty barrels", x, x.writeQueue(), "0,1,2,3,4,5,6,7,8,9,10,11,12,13,14,15,16,17,18,19");
    }

    private static void orderOfTheQueue() {
        LowWaterAuction x = Auctions.of("market 60 60 1 1 0;" + B + EEL.repeat(11));
        x.passMinutes(2);
        dueText("after a return", x, x.writeQueue(), "1,2,3,4,5,6,7,8,9,10,0");
        x.withdraw(1);
        x.withdraw(0);
        dueText("without the first and the last", x, x.writeQueue(), "2,3,4,5,6,7,8,9,10");
    }

    private static void lengthsOfQueues() {
        Check.due("none", Auctions.of(M + B).writeQueue(), 0);
        Check.due("one", Auctions.of(M + B + EEL).writeQueue(), 1);
        Check.due("two", Auctions.of(M + B + EEL + EEL).writeQueue(), 3);
        Check.due("twenty", Edges.twenty().writeQueue(), 49);
    }

    // ---- bytes

    private static void bytesOfNoText() {
        LowWaterAuction x = new LowWaterAuction();
        for (int index : new int[] {-1, 0, 1, Edges.LEAST, Edges.MOST}) {
            Check.due("byte " + index, x.outputByte(index), NONE);
        }
    }

    private static void firstAndLastByte() {
        LowWaterAuction x = new LowWaterAuction();
        x.writeBarrel(0);
        Check.due("byte 0", x.outputByte(0), 52);
        Check.due("the last byte", x.outputByte(7), 48);
        for (int index : new int[] {-1, 8, 9, Edges.LEAST, Edges.MOST}) {
            Check.due("byte " + index, x.outputByte(index), NONE);
        }
    }

    private static void bytesOfEarlierText() {
        LowWaterAuction x = new LowWaterAuction();
        x.writeBarrel(0);
        x.writeBarrel(2);
        Check.due("the last byte", x.outputByte(1), 53);
        Check.due("a byte of the earlier text", x.outputByte(2), NONE);
        x.passMinutes(5);
        x.undo();
        Check.due("the text stays", x.outputByte(1), 53);
    }
}
