/** The boundary cases of promises 45 to 51, the buyers: each sentence has tests of its own. */
final class BuyersEdgesTest {
    private static final String M = Edges.MARKET;
    private static final String B = Edges.BUYER;
    private static final String EEL = Edges.EEL;
    private static final String NO_BUYER = "Throws `IndexOutOfBoundsException` if the buyer does not exist";

    private BuyersEdgesTest() {
    }

    public static void main(String[] args) {
        Edges.holds("45", "Returns 1 to 6.", BuyersEdgesTest::buyerCounts);
        Edges.holds("46", "Returns the coins.", BuyersEdgesTest::purses);
        Edges.holds("47", "Returns 0 to 4.", BuyersEdgesTest::styles);
        Edges.holds("48", "Returns 1 to 999.", BuyersEdgesTest::factors);
        Edges.holds("49", "Returns the number of barrels.", BuyersEdgesTest::noneBought, BuyersEdgesTest::allBought);
        Edges.holds("50", "Returns the number of nods since the setup.", BuyersEdgesTest::noNods, BuyersEdgesTest::everyNod);
        Edges.holds("51", "Returns the worth.", BuyersEdgesTest::worths);
        Edges.holds("51", "Throws `IndexOutOfBoundsException` if the buyer or the barrel does not exist",
            BuyersEdgesTest::worthToNobody, BuyersEdgesTest::worthOfNothing);
        nobody();
        Check.finish();
    }

    private static void nobody() {
        noBuyer("46", LowWaterAuction::purse);
        noBuyer("47", LowWaterAuction::style);
        noBuyer("48", LowWaterAuction::factor);
        noBuyer("49", LowWaterAuction::bought);
        noBuyer("50", LowWaterAuction::nods);
        noBuyer("52", LowWaterAuction::whyNotNod);
    }

    private static void noBuyer(String promise, Edges.Asking asking) {
        Edges.holds(promise, NO_BUYER, () -> {
            for (int buyer : new int[] {-1, 3, 5, 6, Edges.LEAST, Edges.MOST}) {
                Edges.refused("buyer " + buyer + " of three", Edges.INDEX, x -> asking.of(x, buyer));
            }
            Edges.Making one = () -> Auctions.of(M + B + EEL);
            Edges.refused("buyer 1 of one", Edges.INDEX, one, x -> asking.of(x, 1));
            Edges.Making six = () -> Auctions.of(M + B.repeat(6) + EEL);
            Edges.refused("buyer 6 of six", Edges.INDEX, six, x -> asking.of(x, 6));
            LowWaterAuction x = six.make();
            Check.due("buyer 5 of six", asking.of(x, 5), asking.of(x, 0));
        });
    }

    private static void buyerCounts() {
        Check.due("one", Auctions.of(M + B).buyerCount(), 1);
        Check.due("six", Auctions.of(M + B.repeat(6)).buyerCount(), 6);
    }

    private static void purses() {
        LowWaterAuction x = Auctions.of("market 60 60 1 1 0;buyer 0 0 1;buyer 9999 0 1;buyer 1 2 10;" + EEL);
        Check.due("the least", x.purse(0), 0);
        Check.due("the greatest of a setup", x.purse(1), 9999);
        x.passMinutes(3);
        Check.due("all is paid", x.purse(2), 0);
        for (int i = 0; i < 10; i++) {
            x.fund(1, 9999);
        }
        Check.due("the greatest", x.purse(1), 99999);
    }

    private static void styles() {
        LowWaterAuction x = Auctions.of(M + "buyer 0 0 1;buyer 0 1 1;buyer 0 2 1;buyer 0 3 1;buyer 0 4 1;");
        for (int style = 0; style <= 4; style++) {
            Check.due("style " + style, x.style(style), style);
        }
    }

    private static void factors() {
        LowWaterAuction x = Auctions.of(M + "buyer 0 0 1;buyer 0 0 999;");
        Check.due("the least", x.factor(0), 1);
        Check.due("the greatest", x.factor(1), 999);
    }

    private static void noneBought() {
        Check.due("at first", new LowWaterAuction().bought(0), 0);
        LowWaterAuction x = Edges.opened();
        x.nod(0);
        Check.due("the leader", x.bought(0), 0);
        x.passMinutes(2);
        Check.due("sold", x.bought(0), 1);
        Check.due("another buyer", x.bought(2), 0);
        x.undo();
        Check.due("undone", x.bought(0), 0);
    }

    private static void allBought() {
        LowWaterAuction x = Auctions.of("market 60 60 1 1 0;" + B + "buyer 9999 2 999;" + EEL.repeat(20));
        x.passMinutes(60);
        Check.due("twenty", x.bought(1), 20);
        Check.due("none", x.bought(0), 0);
        Auctions.feed(x, M + B + B);
        x.loadSetup();
        Check.due("after a setup", x.bought(1), 0);
    }

    private static void noNods() {
        LowWaterAuction x = Edges.opened();
        Check.due("at first", x.nods(0), 0);
        x.nod(0);
        Auctions.feed(x, M + B);
        x.loadSetup();
        Check.due("after a setup", x.nods(0), 0);
        x.undo();
        Check.due("after undo of the setup", x.nods(0), 1);
        x.undo();
        Check.due("after undo of the nod", x.nods(0), 0);
    }

    private static void everyNod() {
        LowWaterAuction x = Edges.opened();
        x.nod(0);
        Check.due("a nod by call", x.nods(0), 1);
        x.nod(2);
        Auctions.run(x, "nod 0;");
        Check.due("a nod of a script", x.nods(0), 2);
        x.nod(2);
        x.passMinutes(1);
        Check.due("a nod of a minute", x.nods(0), 3);
        Check.dueThrow("a refused nod", Edges.STATE, () -> x.nod(0));
        Check.due("a refused nod does not count", x.nods(0), 3);
        Check.due("the other buyer", x.nods(2), 2);
    }

    private static void worths() {
        LowWaterAuction x = Auctions.of(M + "buyer 0 1 3;".repeat(6) + EEL.repeat(20));
        Check.due("the first barrel to the first buyer", x.worth(0, 0), 0.3);
        Check.due("the last barrel to the last buyer", x.worth(5, 19), 0.3);
        x.setTaste(5, 0, 999);
        Check.due("the least", x.worth(5, 19), 0.0);
        Check.due("a sold barrel", Edges.sold().worth(0, 0), 62.5);
        Check.due("a withdrawn barrel", Edges.withdrawn().worth(0, 0), 62.5);
    }

    private static void worthToNobody() {
        for (int buyer : new int[] {-1, 3, 6, Edges.LEAST, Edges.MOST}) {
            Edges.refused("buyer " + buyer, Edges.INDEX, x -> x.worth(buyer, 0));
            Edges.refused("buyer " + buyer + " and no barrel", Edges.INDEX, x -> x.worth(buyer, 3));
        }
    }

    private static void worthOfNothing() {
        for (int barrel : new int[] {-1, 3, 20, Edges.LEAST, Edges.MOST}) {
            Edges.refused("barrel " + barrel, Edges.INDEX, x -> x.worth(0, barrel));
        }
        Edges.refused("no barrel at all", Edges.INDEX, () -> Auctions.of(M + B), x -> x.worth(0, 0));
    }
}
