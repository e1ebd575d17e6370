/** The boundary cases of the section Terms, up to the steps of a minute: each sentence has tests of its own. */
final class TermsEdgesTest {
    private static final int NONE = Edges.NONE;
    private static final String BUYER = Edges.BUYER;
    private static final String EEL = Edges.EEL;
    private static final String OPEN_MARKET = Edges.MARKET + BUYER;

    private TermsEdgesTest() {
    }

    public static void main(String[] args) {
        tide();
        barrels();
        buyers();
        worths();
        bids();
        closing();
        Check.finish();
    }

    private static void tide() {
        Edges.holds("Tide", "The minute is 0 at the beginning.", TermsEdgesTest::minuteZero);
        Edges.holds("Tide", "The tide has a period of 5 to 60 minutes, and low water lasts from 1 minute to the whole period.",
            TermsEdgesTest::periods, TermsEdgesTest::lowWaters);
        Edges.holds("Tide", "The market is open in a minute if minute modulo period is less than the low water.",
            TermsEdgesTest::openMinutes);
        Edges.holds("Tide", "The horn blows in each minute in which the market is closed and was open in the minute before.",
            TermsEdgesTest::hornInEachPeriod, TermsEdgesTest::hornInLastMinute, TermsEdgesTest::noHorn);
    }

    private static void barrels() {
        Edges.holds("Barrels", "There are at most 20 barrels, numbered from 0.",
            TermsEdgesTest::twentyBarrels, TermsEdgesTest::noBarrelTooMany);
        Edges.holds("Barrels", "A barrel contains 1 to 9 eels, and each eel has a length of 10 to 150.",
            TermsEdgesTest::eelsByCall, TermsEdgesTest::eelsByText);
        Edges.holds("Barrels", "A barrel has a reserve of 1 to 999 coins, a number of returns, and a state:"
            + " 0 waiting, 1 open, 2 sold, 3 withdrawn.", TermsEdgesTest::reserves, TermsEdgesTest::states);
        Edges.holds("Barrels", "At most one barrel is open.", TermsEdgesTest::oneOpenBarrel);
        Edges.holds("Barrels", "The waiting barrels form a queue, at the beginning in the order of their numbers.",
            TermsEdgesTest::queueAtTheBeginning);
    }

    private static void buyers() {
        Edges.holds("Buyers", "There are 1 to 6 buyers, numbered from 0.", TermsEdgesTest::numberOfBuyers);
        Edges.holds("Buyers", "A buyer has a purse of coins, a style, and a factor of 1 to 999.", TermsEdgesTest::factors);
        Edges.holds("Buyers", "The worth of a barrel to a buyer is a double value.", TermsEdgesTest::worthIsNoInteger);
    }

    private static void worths() {
        Edges.holds("Buyers", "style 0: 0.0;", TermsEdgesTest::styleZero);
        Edges.holds("Buyers", "style 1: (double) (factor * sum of the lengths) / 100.0;", TermsEdgesTest::styleOne);
        Edges.holds("Buyers", "style 2: (double) (factor * number of eels) / 10.0;", TermsEdgesTest::styleTwo);
        Edges.holds("Buyers", "style 3: (double) (factor * greatest length * number of eels) / 100.0;",
            TermsEdgesTest::styleThree);
        Edges.holds("Buyers", "style 4: (double) (factor * number of eels with a length of at least 60) / 5.0.",
            TermsEdgesTest::styleFour);
    }

    private static void bids() {
        Edges.holds("Bids", "An open barrel has a bid and a leader, or neither at the beginning.", TermsEdgesTest::neither);
        Edges.holds("Bids", "The next bid is the reserve if there is no leader, and otherwise the bid plus the step,"
            + " which is 1 to 50 coins.", TermsEdgesTest::nextBids, TermsEdgesTest::steps);
        Edges.holds("Bids", "To pay a price means to pay the price plus price * fee / 100 (integer division) coins.",
            TermsEdgesTest::feesRoundedDown);
        Edges.holds("Bids", "The fee is 0 to 50 percent.", TermsEdgesTest::fees);
        Edges.holds("Bids", "A buyer can nod unless one of these reasons applies; the first one counts: 1 the market is"
            + " closed; 2 no barrel is open; 3 the buyer is the leader; 4 the purse is too small to pay the next bid.",
            TermsEdgesTest::closedMarket, TermsEdgesTest::noOpenBarrel, TermsEdgesTest::leader, TermsEdgesTest::smallPurse);
        Edges.holds("Bids", "When a buyer nods, the bid becomes the next bid, the buyer becomes the leader, and the quiet"
            + " becomes 0.", TermsEdgesTest::nodding);
    }

    private static void closing() {
        Edges.holds("Closing", "If an open barrel that has a leader is closed, it is sold: the leader pays the bid.",
            TermsEdgesTest::soldForTheLastCoin, TermsEdgesTest::soldAfterTwoReturns);
        Edges.holds("Closing", "The price goes to the sellers, and the rest goes to the house.", TermsEdgesTest::noRest);
        Edges.holds("Closing", "If it has no leader, its number of returns grows by 1.", TermsEdgesTest::firstReturn);
        Edges.holds("Closing", "If that is now 3, it is withdrawn.", TermsEdgesTest::thirdReturn);
        Edges.holds("Closing", "Otherwise it is waiting again, at the end of the queue.",
            TermsEdgesTest::behindTheOthers, TermsEdgesTest::aloneInTheQueue);
    }

    private static void minuteZero() {
        Check.due("a new object", new LowWaterAuction().minute(), 0);
        LowWaterAuction x = Edges.after(new LowWaterAuction(), 14);
        Auctions.feed(x, "market 5 1 1 1 0;" + BUYER);
        x.loadSetup();
        Check.due("a setup", x.minute(), 0);
        Check.due("minute 0 is open with the shortest low water", x.isOpen(), true);
    }

    private static void periods() {
        Texts.badSetups(Edges.RANGE, "market |4 1 1 1 0;" + BUYER, "market |61 1 1 1 0;" + BUYER, "market |0 1 1 1 0;" + BUYER);
        Check.due("the shortest period", openIn("market 5 1 1 1 0;", 11), "o----o----o");
        Check.due("the longest period", openIn("market 60 1 1 1 0;", 122), "o" + "-".repeat(59) + "o" + "-".repeat(59) + "o-");
    }

    private static void lowWaters() {
        Texts.badSetups(Edges.RANGE, "market 5 |0 1 1 0;" + BUYER, "market 5 |6 1 1 0;" + BUYER,
            "market 60 |0 1 1 0;" + BUYER, "market 60 |61 1 1 0;" + BUYER);
        Check.due("the whole of the shortest period", openIn("market 5 5 1 1 0;", 11), "o".repeat(11));
        Check.due("the whole of the longest period", openIn("market 60 60 1 1 0;", 122), "o".repeat(122));
    }

    private static void openMinutes() {
        Check.due("three of seven minutes", openIn("market 7 3 1 1 0;", 18), "ooo----ooo----ooo-");
        Check.due("all but one minute", openIn("market 7 6 1 1 0;", 15), "oooooo-oooooo-o");
        Check.due("all but one of sixty minutes", openIn("market 60 59 1 1 0;", 121), ("o".repeat(59) + "-").repeat(2) + "o");
    }

    private static String openIn(String market, int minutes) {
        LowWaterAuction x = Auctions.of(market + BUYER);
        StringBuilder signs = new StringBuilder();
        for (int i = 0; i < minutes; i++) {
            signs.append(x.isOpen() ? 'o' : '-');
            x.passMinutes(1);
        }
        return signs.toString();
    }

    private static void hornInEachPeriod() {
        // It is opened in the minutes 1, 5 and 10, and the horn blows in the minutes 2, 7 and 12.
        Check.due("returns by a horn in each period", returnsIn("market 5 2 9 1 0;", 13), "0011111222223");
    }

    private static void hornInLastMinute() {
        Check.due("one closed minute in a period", returnsIn("market 5 4 9 1 0;", 15), "000011111222223");
        Check.due("one open minute in a period", returnsIn("market 5 1 9 1 0;", 17), "00000011111222223");
    }

    private static void noHorn() {
        LowWaterAuction x = Auctions.of("market 5 5 9 1 0;" + BUYER + EEL);
        x.passMinutes(9);
        Check.due("still open behind the end of a period", x.openBarrel(), 0);
        Check.due("quiet behind the end of a period", x.quiet(), 8);
        Check.due("minutesToHorn", x.minutesToHorn(), NONE);
    }

    private static String returnsIn(String market, int minutes) {
        LowWaterAuction x = Auctions.of(market + BUYER + EEL);
        StringBuilder signs = new StringBuilder();
        for (int i = 0; i < minutes; i++) {
            signs.append(x.returns(0));
            x.passMinutes(1);
        }
        return signs.toString();
    }

    private static void twentyBarrels() {
        LowWaterAuction x = new LowWaterAuction();
        for (int number = 3; number < 20; number++) {
            Check.due("number of a barrel", x.addBarrel(1, 1, 10), number);
        }
        Check.due("barrels", x.barrelCount(), 20);
        Check.due("the first barrel", x.eels(0), 3);
        Check.due("the last barrel", x.eels(19), 1);
        Check.dueThrow("a 21st barrel", Edges.INDEX, () -> x.eels(20));
    }

    private static void noBarrelTooMany() {
        Edges.refused("addBarrel", Edges.STATE, Edges::twenty, x -> x.addBarrel(1, 1, 10));
        Edges.refused("split", Edges.STATE, Edges::twenty, x -> x.split(0, 1));
        LowWaterAuction x = Edges.twenty();
        Check.due("BARREL of a script", Auctions.run(x, EEL), 0);
        Check.due("split of a script", Auctions.run(x, "split 0 1;"), 0);
        Check.due("barrels", x.barrelCount(), 20);
        Texts.badSetups(Edges.LIMIT, OPEN_MARKET + EEL.repeat(20) + "|" + EEL);
    }

    private static void eelsByCall() {
        Edges.refused("no eels", Edges.ARGUMENT, x -> x.addBarrel(1, 0, 10));
        Edges.refused("ten eels", Edges.ARGUMENT, x -> x.addBarrel(1, 10, 10));
        Edges.refused("length 9", Edges.ARGUMENT, x -> x.addBarrel(1, 1, 9));
        Edges.refused("length 151", Edges.ARGUMENT, x -> x.addBarrel(1, 1, 151));
        LowWaterAuction x = new LowWaterAuction();
        x.addBarrel(1, 1, 10);
        x.addBarrel(1, 9, 150);
        Check.due("one eel", Auctions.lengths(x, 3), "[10]");
        Check.due("nine eels", Auctions.lengths(x, 4), "[150, 150, 150, 150, 150, 150, 150, 150, 150]");
    }

    private static void eelsByText() {
        String nine = "barrel 1 10 150 10 150 10 150 10 150 10;";
        LowWaterAuction x = Auctions.of(OPEN_MARKET + EEL + nine);
        Check.due("one eel of a setup", Auctions.lengths(x, 0), "[10]");
        Check.due("nine eels of a setup", Auctions.lengths(x, 1), "[10, 150, 10, 150, 10, 150, 10, 150, 10]");
        Check.due("barrels of a script", Auctions.run(x, EEL + nine), 2);
        Check.due("one eel of a script", Auctions.lengths(x, 2), "[10]");
        Check.due("nine eels of a script", Auctions.lengths(x, 3), "[10, 150, 10, 150, 10, 150, 10, 150, 10]");
        Texts.badSetups(Edges.SYNTAX, OPEN_MARKET + "barrel 1|;");
        Texts.badSetups(Edges.RANGE, OPEN_MARKET + "barrel 1 |9;", OPEN_MARKET + "barrel 1 |151;");
        Texts.badSetups(Edges.LIMIT, OPEN_MARKET + "barrel 1" + Edges.NINE + " |10;");
    }

    private static void reserves() {
        Edges.refused("reserve 0", Edges.ARGUMENT, x -> x.addBarrel(0, 1, 10));
        Edges.refused("reserve 1000", Edges.ARGUMENT, x -> x.addBarrel(1000, 1, 10));
        Texts.badSetups(Edges.RANGE, OPEN_MARKET + "barrel |0 10;", OPEN_MARKET + "barrel |1000 10;");
        LowWaterAuction x = Auctions.of(OPEN_MARKET + "barrel 1 10;barrel 999 10;");
        x.addBarrel(1, 1, 10);
        x.addBarrel(999, 1, 10);
        Check.due("the least of a setup", x.reserve(0), 1);
        Check.due("the greatest of a setup", x.reserve(1), 999);
        Check.due("the least of a call", x.reserve(2), 1);
        Check.due("the greatest of a call", x.reserve(3), 999);
    }

    private static void states() {
        Check.due("waiting", new LowWaterAuction().stateOf(0), 0);
        Check.due("open", Edges.opened().stateOf(0), 1);
        Check.due("sold", Edges.sold().stateOf(0), 2);
        Check.due("withdrawn", Edges.withdrawn().stateOf(0), 3);
        Check.due("returns of a new barrel", new LowWaterAuction().returns(0), 0);
    }

    private static void oneOpenBarrel() {
        LowWaterAuction x = Auctions.of("market 9 5 1 1 0;buyer 99 2 20;" + "barrel 2 10;barrel 3 10;".repeat(3));
        for (int i = 0; i < 40; i++) {
            int open = 0;
            for (int barrel = 0; barrel < 6; barrel++) {
                open += x.stateOf(barrel) == 1 ? 1 : 0;
            }
            Check.due("open barrels in minute " + i, open, x.openBarrel() == NONE ? 0 : 1);
            x.passMinutes(1);
        }
    }

    private static void queueAtTheBeginning() {
        Check.due("of a new object", Auctions.queue(new LowWaterAuction()), "[0, 1, 2]");
        Check.due("of no barrels", Auctions.queue(Auctions.of(OPEN_MARKET)), "[]");
        Check.due("of twenty barrels", Auctions.queue(Edges.twenty()),
            "[0, 1, 2, 3, 4, 5, 6, 7, 8, 9, 10, 11, 12, 13, 14, 15, 16, 17, 18, 19]");
    }

    private static void numberOfBuyers() {
        Texts.badSetups(Edges.SYNTAX, Edges.MARKET + "|", Edges.MARKET + "|" + EEL);
        Texts.badSetups(Edges.LIMIT, Edges.MARKET + BUYER.repeat(6) + "|" + BUYER);
        LowWaterAuction one = Auctions.of(Edges.MARKET + "buyer 7 0 1;");
        Check.due("the only buyer", one.purse(0), 7);
        Check.dueThrow("a second buyer", Edges.INDEX, () -> one.purse(1));
        LowWaterAuction six = Auctions.of(Edges.MARKET + BUYER.repeat(5) + "buyer 8 0 1;");
        Check.due("the last of six buyers", six.purse(5), 8);
        Check.dueThrow("a seventh buyer", Edges.INDEX, () -> six.purse(6));
    }

    private static void factors() {
        Edges.refused("factor 0", Edges.ARGUMENT, x -> x.setTaste(0, 1, 0));
        Edges.refused("factor 1000", Edges.ARGUMENT, x -> x.setTaste(0, 1, 1000));
        Texts.badSetups(Edges.RANGE, Edges.MARKET + "buyer 0 0 |0;", Edges.MARKET + "buyer 0 0 |1000;");
        LowWaterAuction x = Auctions.of(Edges.MARKET + "buyer 0 0 1;buyer 0 0 999;");
        Check.due("the least of a setup", x.factor(0), 1);
        Check.due("the greatest of a setup", x.factor(1), 999);
        x.setTaste(0, 0, 999);
        x.setTaste(1, 0, 1);
        Check.due("the greatest of a call", x.factor(0), 999);
        Check.due("the least of a call", x.factor(1), 1);
    }

    private static void worthIsNoInteger() {
        LowWaterAuction x = Auctions.of(Edges.MARKET + "buyer 0 2 1;" + EEL);
        Check.due("the least worth but 0.0 of style 2", x.worth(0, 0), 0.1);
        x.setTaste(0, 4, 1);
        x.addBarrel(1, 1, 60);
        Check.due("the least worth but 0.0 of style 4", x.worth(0, 1), 0.2);
    }

    /** The worth to the only buyer, of a barrel of one shortest eel, and of nine longest ones. */
    private static LowWaterAuction shortAndLong(int style, int factor) {
        LowWaterAuction x = Auctions.of(OPEN_MARKET + EEL);
        x.addBarrel(1, 9, 150);
        x.setTaste(0, style, factor);
        return x;
    }

    private static void styleZero() {
        Check.due("the least factor", shortAndLong(0, 1).worth(0, 0), 0.0);
        Check.due("the greatest factor", shortAndLong(0, 999).worth(0, 1), 0.0);
    }

    private static void styleOne() {
        Check.due("the least", shortAndLong(1, 1).worth(0, 0), 0.1);
        Check.due("the greatest", shortAndLong(1, 999).worth(0, 1), 13486.5);
    }

    private static void styleTwo() {
        Check.due("the least", shortAndLong(2, 1).worth(0, 0), 0.1);
        Check.due("the greatest", shortAndLong(2, 999).worth(0, 1), 899.1);
    }

    private static void styleThree() {
        Check.due("the least", shortAndLong(3, 1).worth(0, 0), 0.1);
        Check.due("the greatest", shortAndLong(3, 999).worth(0, 1), 13486.5);
        LowWaterAuction x = Auctions.of(Edges.MARKET + "buyer 0 3 100;barrel 1 10 30 20;barrel 1 30 10;barrel 1 10 30;");
        Check.due("the greatest in the middle", x.worth(0, 0), 90.0);
        Check.due("the greatest is the first", x.worth(0, 1), 60.0);
        Check.due("the greatest is the last", x.worth(0, 2), 60.0);
    }

    private static void styleFour() {
        LowWaterAuction x = Auctions.of(Edges.MARKET + "buyer 0 4 5;barrel 1 59;barrel 1 60;barrel 1 61 59 60 10 150;");
        Check.due("an eel of 59", x.worth(0, 0), 0.0);
        Check.due("an eel of 60", x.worth(0, 1), 1.0);
        Check.due("eels of 60, 61 and 150", x.worth(0, 2), 3.0);
        Check.due("the greatest", shortAndLong(4, 999).worth(0, 1), 1798.2);
    }

    private static void neither() {
        LowWaterAuction x = Edges.opened();
        Check.due("bid at the beginning", x.bid(), NONE);
        Check.due("leader at the beginning", x.leader(), NONE);
        x.nod(0);
        Check.due("bid", x.bid(), 20);
        Check.due("leader 0", x.leader(), 0);
        x.passMinutes(3);
        Check.due("the next barrel", x.openBarrel(), 1);
        Check.due("bid for the next barrel", x.bid(), NONE);
        Check.due("leader for the next barrel", x.leader(), NONE);
    }

    private static void nextBids() {
        LowWaterAuction x = Edges.opened();
        Check.due("no leader", x.nextBid(), 20);
        x.setStep(1);
        Check.due("no leader and another step", x.nextBid(), 20);
        x.nod(0);
        Check.due("the least step", x.nextBid(), 21);
        x.setStep(50);
        Check.due("the greatest step", x.nextBid(), 70);
    }

    private static void steps() {
        Texts.badSetups(Edges.RANGE, "market 60 60 9 |0 0;" + BUYER, "market 60 60 9 |51 0;" + BUYER);
        Check.due("the least step", Auctions.of("market 60 60 9 1 0;" + BUYER).step(), 1);
        Check.due("the greatest step", Auctions.of("market 60 60 9 50 0;" + BUYER).step(), 50);
    }

    private static void feesRoundedDown() {
        LowWaterAuction half = Auctions.of("market 60 60 9 1 50;" + BUYER);
        Check.due("half a coin", half.costOf(1), 1);
        Check.due("a whole coin", half.costOf(2), 3);
        Check.due("one and a half", half.costOf(3), 4);
        LowWaterAuction one = Auctions.of("market 60 60 9 1 1;" + BUYER);
        Check.due("nearly a coin", one.costOf(99), 99);
        Check.due("just a coin", one.costOf(100), 101);
        Check.due("nearly two coins", one.costOf(199), 200);
    }

    private static void fees() {
        Texts.badSetups(Edges.RANGE, "market 60 60 9 1 |51;" + BUYER);
        Check.due("no fee", Auctions.of("market 60 60 9 1 0;" + BUYER).costOf(9999), 9999);
        Check.due("the greatest fee", Auctions.of("market 60 60 9 1 50;" + BUYER).costOf(9998), 14997);
    }

    private static void closedMarket() {
        LowWaterAuction x = Auctions.of("market 5 1 9 1 0;buyer 0 0 1;" + EEL);
        Check.due("open, and no open barrel", x.whyNotNod(0), 2);
        x.passMinutes(1);
        Check.due("closed, no open barrel and an empty purse", x.whyNotNod(0), 1);
        x.passMinutes(3);
        Check.due("the last closed minute", x.whyNotNod(0), 1);
        x.passMinutes(1);
        Check.due("open again, a barrel open, an empty purse", x.whyNotNod(0), 4);
    }

    private static void noOpenBarrel() {
        LowWaterAuction x = Auctions.of("market 60 60 1 1 0;buyer 1 2 10;" + EEL);
        Check.due("not opened yet", x.whyNotNod(0), 2);
        x.passMinutes(2);
        Check.due("the leader", x.whyNotNod(0), 3);
        x.passMinutes(1);
        Check.due("the former leader, whose purse is empty now", x.whyNotNod(0), 2);
    }

    private static void leader() {
        LowWaterAuction x = Auctions.of(Edges.MARKET + "buyer 1 0 1;buyer 1 0 1;buyer 2 0 1;" + EEL);
        x.passMinutes(1);
        x.nod(0);
        Check.due("the leader, whose purse is too small for the next bid", x.whyNotNod(0), 3);
        Check.due("another one with the same purse", x.whyNotNod(1), 4);
        x.nod(2);
        Check.due("no leader any more", x.whyNotNod(0), 4);
        x.fund(0, 9999);
        x.fund(2, 9999);
        Check.due("can nod", x.whyNotNod(0), 0);
        Check.due("the leader with a large purse", x.whyNotNod(2), 3);
    }

    private static void smallPurse() {
        LowWaterAuction x = Auctions.of("market 60 60 9 4 50;buyer 15 0 1;buyer 14 0 1;buyer 21 0 1;buyer 20 0 1;barrel 10 10;");
        x.passMinutes(1);
        Check.due("just the reserve with its fee", x.whyNotNod(0), 0);
        Check.due("a coin less", x.whyNotNod(1), 4);
        x.nod(0);
        Check.due("just bid and step with their fee", x.whyNotNod(2), 0);
        Check.due("a coin less than bid and step with their fee", x.whyNotNod(3), 4);
    }

    private static void nodding() {
        LowWaterAuction x = Auctions.of(OPEN_MARKET + BUYER + "barrel 9 10;");
        x.passMinutes(9);
        Check.due("quiet", x.quiet(), 8);
        x.nod(1);
        Check.due("the first bid", x.bid(), 9);
        Check.due("the first leader", x.leader(), 1);
        Check.due("quiet after the nod", x.quiet(), 0);
        x.passMinutes(8);
        x.nod(0);
        Check.due("the second bid", x.bid(), 10);
        Check.due("the second leader", x.leader(), 0);
        Check.due("quiet after the second nod", x.quiet(), 0);
        x.passMinutes(8);
        Check.due("open as long as before", x.openBarrel(), 0);
        Check.due("then it is sold", x.passMinutes(1), 1);
    }

    private static void soldForTheLastCoin() {
        LowWaterAuction x = Auctions.of("market 60 60 1 1 50;buyer 15 0 1;barrel 10 10;");
        x.passMinutes(1);
        x.nod(0);
        Check.due("nothing is paid by a nod", x.purse(0), 15);
        x.passMinutes(1);
        Check.due("sold", x.stateOf(0), 2);
        Check.due("an empty purse", x.purse(0), 0);
        Check.due("buyer", x.buyerOf(0), 0);
        Check.due("price", x.priceOf(0), 10);
    }

    private static void soldAfterTwoReturns() {
        LowWaterAuction x = Auctions.of("market 60 60 1 1 0;" + BUYER + EEL);
        x.passMinutes(5);
        x.nod(0);
        x.passMinutes(1);
        Check.due("sold", x.stateOf(0), 2);
        Check.due("a sale is no return", x.returns(0), 2);
    }

    private static void noRest() {
        LowWaterAuction x = Auctions.of("market 60 60 1 1 50;buyer 9 2 999;barrel 1 10;barrel 2 10;");
        x.passMinutes(3);
        Check.due("sellers after a price of 1", x.sellerCoins(), 1);
        Check.due("no rest for the house", x.houseCoins(), 0);
        x.passMinutes(3);
        Check.due("sellers after a price of 2", x.sellerCoins(), 3);
        Check.due("the least rest for the house", x.houseCoins(), 1);
    }

    private static void firstReturn() {
        LowWaterAuction x = Auctions.of("market 60 60 1 1 0;" + BUYER + EEL + EEL);
        x.passMinutes(1);
        Check.due("open", x.returns(0), 0);
        x.passMinutes(1);
        Check.due("closed", x.returns(0), 1);
        Check.due("the other barrel", x.returns(1), 0);
    }

    private static void thirdReturn() {
        LowWaterAuction x = Auctions.of("market 60 60 1 1 0;" + BUYER + EEL);
        x.passMinutes(4);
        Check.due("after the second return", x.stateOf(0), 0);
        Check.due("in the queue after the second return", x.queueLength(), 1);
        x.passMinutes(2);
        Check.due("returns", x.returns(0), 3);
        Check.due("after the third return", x.stateOf(0), 3);
        Check.due("not in the queue after the third return", x.queueLength(), 0);
        Check.due("not sold", x.buyerOf(0), NONE);
    }

    private static void behindTheOthers() {
        LowWaterAuction x = Auctions.of("market 60 60 1 1 0;" + BUYER + EEL.repeat(20));
        x.passMinutes(2);
        Check.due("a full queue", x.queueLength(), 20);
        Check.due("the first of it", x.queuedBarrel(0), 1);
        Check.due("the last of it", x.queuedBarrel(19), 0);
        Check.due("waiting again", x.stateOf(0), 0);
    }

    private static void aloneInTheQueue() {
        LowWaterAuction x = Auctions.of("market 60 60 1 1 0;" + BUYER + EEL);
        x.passMinutes(2);
        Check.due("queue", Auctions.queue(x), "[0]");
        x.passMinutes(1);
        Check.due("opened anew", x.openBarrel(), 0);
        Check.due("quiet anew", x.quiet(), 0);
    }
}
