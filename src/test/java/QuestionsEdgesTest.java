/** The boundary cases of promises 52 to 59, the questions: each sentence has tests of its own. */
final class QuestionsEdgesTest {
    private static final int NONE = Edges.NONE;
    private static final String M = Edges.MARKET;
    private static final String B = Edges.BUYER;
    private static final String EEL = Edges.EEL;
    /** It buys for the reserve: opened, nodded and sold in three minutes a barrel. */
    private static final String KEEN = "market 60 60 1 1 0;buyer 9999 2 999;";
    /** Their bids go up to 500, a coin a minute. */
    private static final String TWO_KEEN = "market 60 60 1 1 0;buyer 9999 1 100;buyer 9999 1 100;barrel ";
    private static final int[] WRONG_MINUTES = {-1, 501, Edges.LEAST, Edges.MOST};
    private static final String NO_BARREL = "Throws `IndexOutOfBoundsException` if the barrel does not exist";
    private static final String WRONG = "Throws `IllegalArgumentException` if minutes is out of range";

    private QuestionsEdgesTest() {
    }

    public static void main(String[] args) {
        nodding();
        costs();
        sales();
        coins();
        Check.finish();
    }

    private static void nodding() {
        Edges.holds("52", "Returns the reason, 1 to 4; 0 if the buyer can nod.", QuestionsEdgesTest::eachReason,
            QuestionsEdgesTest::reasonsOfAllBuyers);
        Edges.holds("54", "Returns index of a buyer; NONE if nobody would nod, no barrel is open, or the market is closed.",
            QuestionsEdgesTest::nobodyWouldNod, QuestionsEdgesTest::noOpenBarrel, QuestionsEdgesTest::closedMarket,
            QuestionsEdgesTest::firstAndLastNodder, QuestionsEdgesTest::nodderComesTrue);
        Edges.holds("55", "Returns index of a buyer, the smallest one among equals.", QuestionsEdgesTest::equals,
            QuestionsEdgesTest::firstAndLastKeenest, QuestionsEdgesTest::keenestByLessThanACoin);
        Edges.holds("55", NO_BARREL, () -> dueNoBarrel(LowWaterAuction::keenestBuyer));
    }

    private static void costs() {
        Edges.holds("53", "Returns the price plus the fee.", QuestionsEdgesTest::leastAndGreatestPrice);
        Edges.holds("53", "Throws `IllegalArgumentException` if price is out of range", QuestionsEdgesTest::wrongPrices);
    }

    private static void sales() {
        Edges.holds("56", "Returns the number of minutes; 0 if it is sold; NONE if it will not be sold within 500 minutes.",
            QuestionsEdgesTest::soldAlready, QuestionsEdgesTest::soldInOneMinute, QuestionsEdgesTest::soldIn500Minutes,
            QuestionsEdgesTest::soldIn501Minutes, QuestionsEdgesTest::neverSold, QuestionsEdgesTest::soldByTheHorn);
        Edges.holds("56", NO_BARREL, () -> dueNoBarrel(LowWaterAuction::minutesToSale));
        Edges.holds("57", "`minutes`: 0 to 500", QuestionsEdgesTest::buyerAfterLeastAndMost);
        Edges.holds("57", "Returns index of a buyer; NONE if it is not sold then.", QuestionsEdgesTest::buyerAtTheSale,
            QuestionsEdgesTest::buyerOfNever);
        Edges.holds("57", NO_BARREL, () -> dueNoBarrel((x, barrel) -> x.buyerAfter(barrel, 500)),
            () -> dueNoBarrel((x, barrel) -> x.buyerAfter(barrel, 0)));
        Edges.holds("57", WRONG, () -> dueWrongMinutes((x, minutes) -> x.buyerAfter(0, minutes)));
    }

    private static void coins() {
        Edges.holds("58", "`minutes`: 0 to 500", QuestionsEdgesTest::coinsAfterLeastAndMost);
        Edges.holds("58", "Returns the coins of the sellers after some minutes, if only minutes pass.",
            QuestionsEdgesTest::coinsAtTheSale, QuestionsEdgesTest::coinsWithoutBarrels);
        Edges.holds("58", WRONG, () -> dueWrongMinutes(LowWaterAuction::sellerCoinsAfter));
        Edges.holds("59", "`minutes`: 0 to 500", QuestionsEdgesTest::bestAfterLeastAndMost);
        Edges.holds("59", "Returns the step, 1 to 50, with which the sellers would have the most coins after these minutes, if"
            + " only minutes pass; the smallest one among equals.", QuestionsEdgesTest::stepsAreEqual,
            QuestionsEdgesTest::greatestStep, QuestionsEdgesTest::smallestAmongEquals, QuestionsEdgesTest::presentStep);
        Edges.holds("59", WRONG, () -> dueWrongMinutes(LowWaterAuction::bestStep));
        Edges.holds("Terms", "Ahead of the calls `whyNotNod`, `costOf`, `nextNodder`, `keenestBuyer`, `minutesToSale`, `buyerAfter`,"
            + " `sellerCoinsAfter`, `bestStep` the interface says: ---- questions; nothing changes.",
            QuestionsEdgesTest::nothingChanges);
    }

    private static void dueNoBarrel(Edges.Asking asking) {
        for (int barrel : new int[] {-1, 3, 19, 20, Edges.LEAST, Edges.MOST}) {
            Edges.refused("barrel " + barrel, Edges.INDEX, x -> asking.of(x, barrel));
        }
        Edges.refused("no barrel at all", Edges.INDEX, () -> Auctions.of(M + B), x -> asking.of(x, 0));
        Edges.refused("barrel 20 of twenty", Edges.INDEX, Edges::twenty, x -> asking.of(x, 20));
        LowWaterAuction y = Edges.twenty();
        Check.due("barrel 19 of twenty", asking.of(y, 19), asking.of(y, 18));
    }

    private static void dueWrongMinutes(Edges.Asking asking) {
        for (int minutes : WRONG_MINUTES) {
            Edges.refused(minutes + " minutes", Edges.ARGUMENT, Edges::opened, x -> asking.of(x, minutes));
        }
    }

    // ---- nodding

    private static void eachReason() {
        LowWaterAuction x = Auctions.of("market 5 3 9 1 0;buyer 1 0 1;buyer 0 0 1;" + EEL);
        Check.due("no barrel is open", x.whyNotNod(0), 2);
        x.passMinutes(1);
        Check.due("can nod", x.whyNotNod(0), 0);
        Check.due("the purse is too small", x.whyNotNod(1), 4);
        x.nod(0);
        Check.due("the leader", x.whyNotNod(0), 3);
        x.passMinutes(2);
        Check.due("the market is closed", x.whyNotNod(0), 1);
    }

    private static void reasonsOfAllBuyers() {
        LowWaterAuction x = Edges.after(Auctions.of(M + B.repeat(6) + EEL), 1);
        x.nod(5);
        Check.due("the first buyer", x.whyNotNod(0), 0);
        Check.due("the last buyer", x.whyNotNod(5), 3);
        Check.dueThrow("a seventh buyer", Edges.INDEX, () -> x.whyNotNod(6));
    }

    private static void nobodyWouldNod() {
        LowWaterAuction worthless = Edges.after(Auctions.of(M + "buyer 99 2 99;barrel 10 10;"), 1);
        Check.due("a worth of 9.9 for 10", worthless.nextNodder(), NONE);
        worthless.setTaste(0, 2, 100);
        Check.due("a worth of 10.0 for 10", worthless.nextNodder(), 0);
        LowWaterAuction poor = Edges.after(Auctions.of(M + "buyer 9 2 999;barrel 10 10;"), 1);
        Check.due("a purse of 9 for 10", poor.nextNodder(), NONE);
        poor.fund(0, 1);
        Check.due("a purse of 10 for 10", poor.nextNodder(), 0);
        poor.nod(0);
        poor.fund(0, 9999);
        Check.due("only the leader would", poor.nextNodder(), NONE);
    }

    private static void noOpenBarrel() {
        Check.due("before the first minute", Auctions.of(KEEN + EEL).nextNodder(), NONE);
        Check.due("after a sale", Edges.after(Auctions.of(KEEN + EEL + EEL), 3).nextNodder(), NONE);
        Check.due("no barrel at all", Edges.after(Auctions.of(KEEN), 3).nextNodder(), NONE);
    }

    private static void closedMarket() {
        LowWaterAuction x = Auctions.of("market 5 2 9 1 0;buyer 9999 2 999;" + EEL);
        x.passMinutes(1);
        Check.due("the last open minute", x.nextNodder(), 0);
        x.passMinutes(1);
        Check.due("the first closed minute", x.nextNodder(), NONE);
        x.passMinutes(2);
        Check.due("the last closed minute", x.nextNodder(), NONE);
        x.passMinutes(1);
        Check.due("the first open minute", x.nextNodder(), 0);
    }

    private static void firstAndLastNodder() {
        String keen = "buyer 9999 2 999;";
        LowWaterAuction x = Edges.after(Auctions.of(M + keen.repeat(6) + EEL), 1);
        Check.due("the first buyer", x.nextNodder(), 0);
        x.nod(4);
        Check.due("the last buyer", x.nextNodder(), 5);
        x.nod(5);
        Check.due("the first buyer after the last one", x.nextNodder(), 0);
    }

    private static void nodderComesTrue() {
        LowWaterAuction x = Auctions.of("market 13 9 2 3 10;buyer 90 1 60;buyer 70 2 90;buyer 80 3 20;barrel 9 40 50;barrel 4 90;");
        for (int i = 0; i < 40; i++) {
            int nodder = x.nextNodder();
            int horn = x.minutesToHorn();
            int nods = nodder == NONE ? 0 : x.nods(nodder);
            x.passMinutes(1);
            if (nodder != NONE && horn != 1) {
                Check.due("leader in minute " + x.minute(), x.leader(), nodder);
                Check.due("nods in minute " + x.minute(), x.nods(nodder), nods + 1);
            }
        }
    }

    private static void equals() {
        LowWaterAuction x = Auctions.of(M + "buyer 0 2 10;".repeat(6) + EEL);
        Check.due("all equal", x.keenestBuyer(0), 0);
        x.setTaste(0, 2, 9);
        Check.due("all but the first", x.keenestBuyer(0), 1);
        x.setTaste(5, 1, 11);
        x.setTaste(3, 1, 11);
        Check.due("two of them", x.keenestBuyer(0), 3);
        LowWaterAuction nothing = Auctions.of(M + "buyer 0 0 999;buyer 0 4 999;" + EEL);
        Check.due("0.0 to everybody", nothing.keenestBuyer(0), 0);
    }

    private static void firstAndLastKeenest() {
        LowWaterAuction x = Auctions.of(M + "buyer 0 2 10;".repeat(6) + EEL);
        x.setTaste(0, 2, 11);
        Check.due("the first", x.keenestBuyer(0), 0);
        x.setTaste(5, 2, 12);
        Check.due("the last", x.keenestBuyer(0), 5);
        LowWaterAuction one = Auctions.of(M + B + EEL);
        Check.due("the only one", one.keenestBuyer(0), 0);
        Check.due("a sold barrel", Edges.sold().keenestBuyer(0), 0);
        Check.due("a withdrawn barrel", Edges.withdrawn().keenestBuyer(0), 0);
    }

    private static void keenestByLessThanACoin() {
        LowWaterAuction x = Auctions.of(M + "buyer 0 2 10;buyer 0 2 11;" + EEL);
        Check.due("1.0 and 1.1", x.keenestBuyer(0), 1);
        LowWaterAuction y = Auctions.of(M + "buyer 9999 2 1;buyer 0 2 2;" + EEL);
        Check.due("0.1 and 0.2, and an empty purse", y.keenestBuyer(0), 1);
    }

    // ---- costs

    private static void leastAndGreatestPrice() {
        String[] fees = {"0", "1", "50"};
        int[] costs = {9999, 10098, 14998};
        for (int i = 0; i < fees.length; i++) {
            LowWaterAuction x = Auctions.of("market 60 60 9 1 " + fees[i] + ";" + B);
            Check.due("0 with a fee of " + fees[i], x.costOf(0), 0);
            Check.due("9999 with a fee of " + fees[i], x.costOf(9999), costs[i]);
        }
    }

    private static void wrongPrices() {
        for (int price : new int[] {-1, 10000, Edges.LEAST, Edges.MOST}) {
            Edges.refused("price " + price, Edges.ARGUMENT, x -> x.costOf(price));
        }
    }

    // ---- sales

    private static void soldAlready() {
        Check.due("sold", Edges.sold().minutesToSale(0), 0);
        Check.due("sold long ago", Edges.after(Edges.sold(), 200).minutesToSale(0), 0);
    }

    private static void soldInOneMinute() {
        LowWaterAuction x = Edges.after(Auctions.of(KEEN + EEL), 2);
        Check.due("the last quiet minute", x.minutesToSale(0), 1);
        Check.due("sold then", x.passMinutes(1), 1);
        Check.due("from the beginning", Auctions.of(KEEN + EEL).minutesToSale(0), 3);
        Check.due("the last of twenty", Auctions.of(KEEN + EEL.repeat(20)).minutesToSale(19), 60);
    }

    private static void soldIn500Minutes() {
        LowWaterAuction x = Auctions.of(TWO_KEEN + "3 150 150 150 50;");
        Check.due("at first", x.minutesToSale(0), 500);
        x.passMinutes(200);
        x.passMinutes(200);
        x.passMinutes(99);
        Check.due("a minute before", x.stateOf(0), 1);
        x.passMinutes(1);
        Check.due("sold in minute 500", x.stateOf(0), 2);
    }

    private static void soldIn501Minutes() {
        LowWaterAuction x = Auctions.of(TWO_KEEN + "2 150 150 150 50;");
        Check.due("in 501 minutes", x.minutesToSale(0), NONE);
        x.passMinutes(1);
        Check.due("in 500 minutes", x.minutesToSale(0), 500);
        x.passMinutes(1);
        Check.due("in 499 minutes", x.minutesToSale(0), 499);
    }

    private static void neverSold() {
        Check.due("nobody wants it", Auctions.of(M + B + EEL).minutesToSale(0), NONE);
        Check.due("withdrawn", Edges.withdrawn().minutesToSale(0), NONE);
        Check.due("no minute to think", Auctions.of("market 5 1 9 1 0;buyer 9 2 999;" + EEL).minutesToSale(0), NONE);
        Check.due("withdrawn by returns", Edges.after(Auctions.of("market 60 60 1 1 0;" + B + EEL), 6).minutesToSale(0), NONE);
    }

    private static void soldByTheHorn() {
        LowWaterAuction x = Auctions.of("market 60 2 9 1 0;buyer 9 2 999;" + EEL);
        Check.due("opened in minute 1 and 60, sold by the second horn", x.minutesToSale(0), 62);
        LowWaterAuction y = Auctions.of("market 60 3 9 1 0;buyer 9 2 999;" + EEL);
        Check.due("sold by the first horn", y.minutesToSale(0), 3);
    }

    private static void buyerAfterLeastAndMost() {
        LowWaterAuction x = Auctions.of(KEEN + EEL);
        Check.due("0", x.buyerAfter(0, 0), NONE);
        Check.due("500", x.buyerAfter(0, 500), 0);
    }

    private static void buyerAtTheSale() {
        LowWaterAuction x = Auctions.of(KEEN + EEL);
        Check.due("a minute before", x.buyerAfter(0, 2), NONE);
        Check.due("in that minute", x.buyerAfter(0, 3), 0);
        x.passMinutes(3);
        Check.due("sold already", x.buyerAfter(0, 0), 0);
        LowWaterAuction far = Auctions.of(TWO_KEEN + "3 150 150 150 50;");
        Check.due("after 499 minutes", far.buyerAfter(0, 499), NONE);
        Check.due("after 500 minutes", far.buyerAfter(0, 500), 1);
    }

    private static void buyerOfNever() {
        Check.due("nobody wants it", Auctions.of(M + B + EEL).buyerAfter(0, 500), NONE);
        Check.due("withdrawn", Edges.withdrawn().buyerAfter(0, 500), NONE);
        Check.due("a leader is no buyer", Edges.after(Auctions.of(KEEN + EEL), 2).buyerAfter(0, 0), NONE);
    }

    // ---- coins

    private static void coinsAfterLeastAndMost() {
        Check.due("0", Auctions.of(KEEN + EEL).sellerCoinsAfter(0), 0);
        Check.due("500", Auctions.of(KEEN + EEL).sellerCoinsAfter(500), 1);
        Check.due("0 after a sale", Edges.sold().sellerCoinsAfter(0), 20);
    }

    private static void coinsAtTheSale() {
        LowWaterAuction x = Auctions.of(KEEN + "barrel 7 10;");
        Check.due("a minute before", x.sellerCoinsAfter(2), 0);
        Check.due("in that minute", x.sellerCoinsAfter(3), 7);
        LowWaterAuction far = Auctions.of(TWO_KEEN + "3 150 150 150 50;");
        Check.due("after 499 minutes", far.sellerCoinsAfter(499), 0);
        Check.due("after 500 minutes", far.sellerCoinsAfter(500), 500);
    }

    private static void coinsWithoutBarrels() {
        Check.due("no barrels", Auctions.of(M + B).sellerCoinsAfter(500), 0);
        Check.due("nobody wants them", Auctions.of(M + B + EEL).sellerCoinsAfter(500), 0);
    }

    private static void bestAfterLeastAndMost() {
        LowWaterAuction x = Auctions.of(TWO_KEEN + "3 150 150 150 50;");
        Check.due("0", x.bestStep(0), 1);
        // From 3 up to 500 in steps: 7 and 71 end at 500, as 497 = 7 * 71, and 1 does so in minute 500.
        Check.due("499", x.bestStep(499), 7);
        Check.due("500", x.bestStep(500), 1);
    }

    private static void stepsAreEqual() {
        Check.due("no barrels", Auctions.of(M + B).bestStep(500), 1);
        Check.due("nobody wants them", Auctions.of(M + B + EEL).bestStep(500), 1);
        Check.due("one buyer never bids twice", Auctions.of(KEEN + EEL).bestStep(500), 1);
        Check.due("all are sold", Edges.after(Auctions.of(KEEN + EEL), 10).bestStep(500), 1);
    }

    private static void greatestStep() {
        String two = "market 60 60 1 1 0;buyer 9999 2 600;buyer 9999 2 600;barrel 10 10;";
        Check.due("the second nod is the last one", Auctions.of(two).bestStep(4), 50);
        Check.due("a step of 50 is one of many afterwards", Auctions.of(two).bestStep(500), 1);
    }

    private static void smallestAmongEquals() {
        // Worth 12.0 to both: from 8, the steps 1, 2 and 4 end at 12, and 3 ends at 11.
        String two = "market 60 60 1 1 0;buyer 99 2 120;buyer 99 2 120;barrel 8 10;";
        Check.due("1, 2 and 4 are equal in the end", Auctions.of(two).bestStep(500), 1);
        Check.due("only 4 is sold for 12 in minute 4", Auctions.of(two).bestStep(4), 4);
        Check.due("2 and 4 in minute 5", Auctions.of(two).bestStep(5), 2);
        Check.due("5 to 50 are sold for 8 in minute 3", Auctions.of(two).bestStep(3), 5);
    }

    private static void presentStep() {
        LowWaterAuction x = Auctions.of("market 60 60 1 7 0;buyer 99 2 120;buyer 99 2 120;barrel 8 10;");
        Check.due("a present step of 7", x.bestStep(500), 1);
        Check.due("it stays", x.step(), 7);
        Check.due("coins with the present step", x.sellerCoinsAfter(500), 8);
        x.passMinutes(2);
        Check.due("with a leader already", x.bestStep(500), 1);
        Check.due("who pays 8 if there is not time for more", x.bestStep(1), 5);
    }

    private static void nothingChanges() {
        LowWaterAuction x = Auctions.of("market 60 60 1 7 0;buyer 99 2 120;buyer 99 2 120;barrel 8 10;");
        x.passMinutes(2);
        x.writeQueue();
        String before = Edges.seen(x);
        x.whyNotNod(1);
        x.costOf(9999);
        x.nextNodder();
        x.keenestBuyer(0);
        x.minutesToSale(0);
        x.buyerAfter(0, 500);
        x.sellerCoinsAfter(500);
        x.bestStep(500);
        Check.due("all that is seen", Edges.seen(x), before);
        Check.due("changes", x.undo(), 1);
    }
}
