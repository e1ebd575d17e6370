/** Promises 45 to 51: the buyers. */
final class BuyersTest {
    private static final Class<? extends RuntimeException> INDEX = IndexOutOfBoundsException.class;

    private BuyersTest() {
    }

    public static void main(String[] args) {
        answers();
        worth();
        noSuchBuyer(-1);
        noSuchBuyer(3);
        noSuchBuyer(6);
        noSuchBuyer(Integer.MAX_VALUE);
        Check.finish();
    }

    private static void answers() {
        LowWaterAuction x = new LowWaterAuction();
        Check.due("45 buyers", x.buyerCount(), 3);
        Check.due("45 one buyer", Auctions.of("market 5 5 1 1 0;buyer 0 0 1;").buyerCount(), 1);
        Check.due("46 purse", x.purse(2), 300);
        Check.due("47 style", x.style(1), 2);
        Check.due("48 factor", x.factor(1), 60);
        Check.due("49 bought", x.bought(0), 0);
        Check.due("50 nods", x.nods(0), 0);
        x.passMinutes(1);
        x.nod(2);
        x.passMinutes(1);
        Check.due("50 a nod by call", x.nods(2), 1);
        Check.due("50 a nod in a minute", x.nods(0), 1);
        x.nod(2);
        Check.due("50 two nods", x.nods(2), 2);
        Check.due("49 not sold yet", x.bought(2), 0);
        x.setTaste(0, 0, 1);
        x.passMinutes(2);
        Check.due("49 bought", x.bought(2), 1);
        Check.due("49 not bought", x.bought(0), 0);
        Check.due("46 the purse paid price and fee", x.purse(2), 300 - 33);
        x.setTaste(2, 2, 999);
        x.passMinutes(8);
        Check.due("49 bought all", x.bought(2), 3);
        Auctions.feed(x, "market 5 5 1 1 0;buyer 0 0 1;buyer 0 0 1;buyer 5 0 1;");
        x.loadSetup();
        Check.due("49 since the setup", x.bought(2), 0);
        Check.due("50 since the setup", x.nods(2), 0);
    }

    private static void worth() {
        LowWaterAuction x = Auctions.of("market 5 5 1 1 0;buyer 0 0 999;buyer 0 1 7;buyer 0 2 7;buyer 0 3 7;buyer 0 4 7;"
            + "barrel 1 59 60 61;barrel 1 10;barrel 1 150 150 150 150 150 150 150 150 150;");
        Check.due("51 style 0", x.worth(0, 0), 0.0);
        Check.due("51 style 1", x.worth(1, 0), 12.6);
        Check.due("51 style 2", x.worth(2, 0), 2.1);
        Check.due("51 style 3", x.worth(3, 0), 12.81);
        Check.due("51 style 4", x.worth(4, 0), 2.8);
        Check.due("51 style 1", x.worth(1, 1), 0.7);
        Check.due("51 style 4 of short eels", x.worth(4, 1), 0.0);
        for (int buyer = 1; buyer <= 4; buyer++) {
            x.setTaste(buyer, buyer, 999);
        }
        Check.due("51 greatest of style 1", x.worth(1, 2), 13486.5);
        Check.due("51 greatest of style 2", x.worth(2, 2), 899.1);
        Check.due("51 greatest of style 3", x.worth(3, 2), 13486.5);
        Check.due("51 greatest of style 4", x.worth(4, 2), 1798.2);
        x.split(0, 1);
        Check.due("51 style 4 after a split", x.worth(4, 0), 199.8);
        Check.due("51 style 4 of the new barrel", x.worth(4, 3), 199.8);
        Check.due("51 style 3 after a split", x.worth(3, 0), 1198.8);
        Check.dueThrow("51 no such buyer", INDEX, () -> x.worth(5, 0));
        Check.dueThrow("51 no such buyer", INDEX, () -> x.worth(-1, 0));
        Check.dueThrow("51 neither", INDEX, () -> x.worth(-1, -1));
    }

    private static void noSuchBuyer(int buyer) {
        LowWaterAuction x = new LowWaterAuction();
        Check.dueThrow("46 buyer " + buyer, INDEX, () -> x.purse(buyer));
        Check.dueThrow("47 buyer " + buyer, INDEX, () -> x.style(buyer));
        Check.dueThrow("48 buyer " + buyer, INDEX, () -> x.factor(buyer));
        Check.dueThrow("49 buyer " + buyer, INDEX, () -> x.bought(buyer));
        Check.dueThrow("50 buyer " + buyer, INDEX, () -> x.nods(buyer));
        Check.dueThrow("51 buyer " + buyer, INDEX, () -> x.worth(buyer, 0));
        Check.dueThrow("52 buyer " + buyer, INDEX, () -> x.whyNotNod(buyer));
    }
}
