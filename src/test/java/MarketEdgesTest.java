/** The boundary cases of promises 20 to 32, the market and the bidding: each sentence has tests of its own. */
final class MarketEdgesTest {
    private static final int NONE = Edges.NONE;
    private static final String M = Edges.MARKET;
    private static final String B = Edges.BUYER;
    private static final String EEL = Edges.EEL;

    private MarketEdgesTest() {
    }

    public static void main(String[] args) {
        tide();
        coins();
        bidding();
        queue();
        Check.finish();
    }

    private static void tide() {
        Edges.holds("20", "Returns the number of minutes that have passed since the setup.", MarketEdgesTest::minutes);
        Edges.holds("21", "Returns true if it is open.", MarketEdgesTest::openMinutes);
        Edges.holds("22", "Returns the smallest number of minutes, from 1; NONE if it never blows.",
            MarketEdgesTest::minutesOfEachPhase, MarketEdgesTest::shortestLowWater, MarketEdgesTest::longestPeriod,
            MarketEdgesTest::noHorn, MarketEdgesTest::hornComesTrue);
    }

    private static void coins() {
        Edges.holds("23", "Returns 1 to 50.", MarketEdgesTest::steps);
        Edges.holds("24", "Returns the coins since the setup.", MarketEdgesTest::sellersFromZero, MarketEdgesTest::coinsAfterSetup);
        Edges.holds("25", "Returns the coins since the setup.", MarketEdgesTest::houseFromZero, MarketEdgesTest::coinsAfterSetup);
    }

    private static void bidding() {
        Edges.holds("26", "Returns index of a barrel; NONE if no barrel is open.", MarketEdgesTest::openBarrels);
        Edges.holds("27", "Returns the bid for the open barrel; NONE if no barrel is open or it has no bid.",
            MarketEdgesTest::bids);
        Edges.holds("28", "Returns index of a buyer; NONE if no barrel is open or it has no leader.", MarketEdgesTest::leaders);
        Edges.holds("29", "Returns the next bid for the open barrel; NONE if no barrel is open.", MarketEdgesTest::nextBids);
        Edges.holds("30", "Returns the quiet of the open barrel; NONE if no barrel is open.", MarketEdgesTest::quiets);
    }

    private static void queue() {
        Edges.holds("31", "Returns the length of the queue.", MarketEdgesTest::emptyQueue, MarketEdgesTest::fullQueue);
        Edges.holds("32", "`place`: 0 for the first one", MarketEdgesTest::firstPlace);
        Edges.holds("32", "Returns index of a barrel; NONE if place is negative or not less than the length of the queue.",
            MarketEdgesTest::places, MarketEdgesTest::placesOfEmptyQueue, MarketEdgesTest::placesOfFullQueue,
            MarketEdgesTest::placesThatBecameFree);
    }

    private static void minutes() {
        LowWaterAuction x = new LowWaterAuction();
        Check.due("at first", x.minute(), 0);
        x.passMinutes(1);
        Check.due("after one", x.minute(), 1);
        x.passMinutes(200);
        Check.due("after 201", x.minute(), 201);
        Auctions.feed(x, M + B);
        x.loadSetup();
        Check.due("after a setup", x.minute(), 0);
        x.undo();
        Check.due("after undo", x.minute(), 201);
    }

    private static void openMinutes() {
        LowWaterAuction x = new LowWaterAuction();
        Check.due("minute 0", x.isOpen(), true);
        x.passMinutes(11);
        Check.due("minute 11", x.isOpen(), true);
        x.passMinutes(1);
        Check.due("minute 12", x.isOpen(), false);
        x.passMinutes(7);
        Check.due("minute 19", x.isOpen(), false);
        x.passMinutes(1);
        Check.due("minute 20", x.isOpen(), true);
        x.passMinutes(11);
        Check.due("minute 31", x.isOpen(), true);
        x.passMinutes(1);
        Check.due("minute 32", x.isOpen(), false);
    }

    private static void dueHorns(String market, int... horns) {
        LowWaterAuction x = Auctions.of(market + B);
        for (int horn : horns) {
            Check.due(market + " in minute " + x.minute(), x.minutesToHorn(), horn);
            x.passMinutes(1);
        }
    }

    private static void minutesOfEachPhase() {
        dueHorns("market 5 3 1 1 0;", 3, 2, 1, 5, 4, 3, 2, 1, 5, 4, 3, 2, 1, 5);
    }

    private static void shortestLowWater() {
        dueHorns("market 5 1 1 1 0;", 1, 5, 4, 3, 2, 1, 5, 4);
        dueHorns("market 5 4 1 1 0;", 4, 3, 2, 1, 5, 4, 3, 2, 1, 5);
    }

    private static void longestPeriod() {
        LowWaterAuction x = Auctions.of("market 60 59 1 1 0;" + B);
        Check.due("minute 0", x.minutesToHorn(), 59);
        x.passMinutes(58);
        Check.due("minute 58", x.minutesToHorn(), 1);
        x.passMinutes(1);
        Check.due("minute 59", x.minutesToHorn(), 60);
        x.passMinutes(1);
        Check.due("minute 60", x.minutesToHorn(), 59);
        LowWaterAuction y = Auctions.of("market 60 1 1 1 0;" + B);
        Check.due("minute 0 of a short low water", y.minutesToHorn(), 1);
        y.passMinutes(1);
        Check.due("minute 1 of a short low water", y.minutesToHorn(), 60);
    }

    private static void noHorn() {
        for (int period : new int[] {5, 60}) {
            LowWaterAuction x = Auctions.of("market " + period + " " + period + " 1 1 0;" + B);
            Check.due("minute 0", x.minutesToHorn(), NONE);
            x.passMinutes(period);
            Check.due("minute " + period, x.minutesToHorn(), NONE);
        }
    }

    private static void hornComesTrue() {
        LowWaterAuction x = Auctions.of("market 11 7 1 1 0;" + B);
        for (int i = 0; i < 40; i++) {
            int horn = x.minutesToHorn();
            boolean wasOpen = x.isOpen();
            x.passMinutes(1);
            Check.due("the horn blows in minute " + x.minute(), wasOpen && !x.isOpen(), horn == 1);
        }
    }

    private static void steps() {
        Check.due("the least", Auctions.of("market 5 5 1 1 0;" + B).step(), 1);
        Check.due("the greatest", Auctions.of("market 5 5 1 50 0;" + B).step(), 50);
    }

    /** The only buyer buys the first barrel in minute 3 and the second one in minute 6. */
    private static LowWaterAuction twoSales() {
        return Auctions.of("market 60 60 1 1 50;buyer 1499 2 999;buyer 0 0 1;barrel 899" + Edges.NINE + ";" + EEL);
    }

    private static void sellersFromZero() {
        LowWaterAuction x = twoSales();
        Check.due("at first", x.sellerCoins(), 0);
        x.passMinutes(2);
        Check.due("a bid", x.sellerCoins(), 0);
        x.passMinutes(1);
        Check.due("a sale", x.sellerCoins(), 899);
        x.passMinutes(3);
        Check.due("the least sale", x.sellerCoins(), 900);
    }

    private static void houseFromZero() {
        LowWaterAuction x = twoSales();
        Check.due("at first", x.houseCoins(), 0);
        x.passMinutes(2);
        Check.due("a bid", x.houseCoins(), 0);
        x.passMinutes(1);
        Check.due("a sale", x.houseCoins(), 449);
        x.passMinutes(3);
        Check.due("the least sale", x.houseCoins(), 449);
    }

    private static void coinsAfterSetup() {
        LowWaterAuction x = Edges.sold();
        Auctions.feed(x, M + B);
        x.loadSetup();
        Check.due("sellers after a setup", x.sellerCoins(), 0);
        Check.due("house after a setup", x.houseCoins(), 0);
        x.undo();
        Check.due("sellers after undo", x.sellerCoins(), 20);
        Check.due("house after undo", x.houseCoins(), 2);
    }

    // ---- bidding

    /** Objects without an open barrel: at first, after a sale, after a return, after the horn, and without any barrel. */
    private static LowWaterAuction[] noneOpen() {
        return new LowWaterAuction[] {new LowWaterAuction(), Edges.sold(),
            Edges.after(Auctions.of("market 60 60 1 1 0;" + B + EEL), 2),
            Edges.after(Auctions.of("market 5 3 9 1 0;buyer 99 2 999;" + EEL), 3), Edges.after(Auctions.of(M + B), 5)};
    }

    private static void openBarrels() {
        for (LowWaterAuction x : noneOpen()) {
            Check.due("none open", x.openBarrel(), NONE);
        }
        Check.due("the first barrel", Edges.opened().openBarrel(), 0);
        LowWaterAuction x = Edges.twenty();
        for (int barrel = 0; barrel < 19; barrel++) {
            x.withdraw(barrel);
        }
        x.passMinutes(1);
        Check.due("the last of twenty barrels", x.openBarrel(), 19);
    }

    private static void bids() {
        for (LowWaterAuction x : noneOpen()) {
            Check.due("none open", x.bid(), NONE);
        }
        LowWaterAuction x = Edges.opened();
        Check.due("no bid", x.bid(), NONE);
        x.nod(2);
        Check.due("a bid", x.bid(), 20);
        LowWaterAuction y = Edges.after(Auctions.of("market 60 60 1 1 0;" + B + EEL + EEL), 1);
        y.nod(0);
        Check.due("the least bid", y.bid(), 1);
        y.passMinutes(2);
        Check.due("the next barrel", y.openBarrel(), 1);
        Check.due("no bid for the next barrel", y.bid(), NONE);
    }

    private static void leaders() {
        for (LowWaterAuction x : noneOpen()) {
            Check.due("none open", x.leader(), NONE);
        }
        LowWaterAuction x = Edges.opened();
        Check.due("no leader", x.leader(), NONE);
        x.nod(0);
        Check.due("the first buyer", x.leader(), 0);
        x.nod(2);
        Check.due("the last buyer", x.leader(), 2);
    }

    private static void nextBids() {
        for (LowWaterAuction x : noneOpen()) {
            Check.due("none open", x.nextBid(), NONE);
        }
        LowWaterAuction x = Edges.opened();
        Check.due("the reserve", x.nextBid(), 20);
        x.nod(0);
        Check.due("bid and step", x.nextBid(), 25);
    }

    private static void quiets() {
        for (LowWaterAuction x : noneOpen()) {
            Check.due("none open", x.quiet(), NONE);
        }
        LowWaterAuction x = Edges.after(Auctions.of(M + B + EEL), 1);
        Check.due("the least", x.quiet(), 0);
        x.passMinutes(8);
        Check.due("the greatest", x.quiet(), 8);
    }

    // ---- queue

    private static void emptyQueue() {
        Check.due("no barrels", Auctions.of(M + B).queueLength(), 0);
        Check.due("the only barrel is open", Edges.after(Auctions.of(M + B + EEL), 1).queueLength(), 0);
        Check.due("the only barrel waits", Auctions.of(M + B + EEL).queueLength(), 1);
    }

    private static void fullQueue() {
        LowWaterAuction x = Edges.twenty();
        Check.due("all wait", x.queueLength(), 20);
        x.passMinutes(1);
        Check.due("one is open", x.queueLength(), 19);
        x.passMinutes(9);
        Check.due("it is returned", x.queueLength(), 20);
    }

    private static void firstPlace() {
        LowWaterAuction x = new LowWaterAuction();
        Check.due("the first one", x.queuedBarrel(0), 0);
        x.passMinutes(1);
        Check.due("the first one behind the open one", x.queuedBarrel(0), 1);
    }

    private static void places() {
        LowWaterAuction x = new LowWaterAuction();
        Check.due("the last place", x.queuedBarrel(2), 2);
        for (int place : new int[] {-1, 3, 19, 20, Edges.LEAST, Edges.MOST}) {
            Check.due("place " + place, x.queuedBarrel(place), NONE);
        }
    }

    private static void placesOfEmptyQueue() {
        LowWaterAuction x = Auctions.of(M + B);
        for (int place : new int[] {-1, 0, 1, 20, Edges.LEAST, Edges.MOST}) {
            Check.due("place " + place, x.queuedBarrel(place), NONE);
        }
    }

    private static void placesOfFullQueue() {
        LowWaterAuction x = Edges.twenty();
        for (int place = 0; place < 20; place++) {
            Check.due("place " + place, x.queuedBarrel(place), place);
        }
        Check.due("place 20", x.queuedBarrel(20), NONE);
        Check.due("place -1", x.queuedBarrel(-1), NONE);
    }

    private static void placesThatBecameFree() {
        LowWaterAuction x = new LowWaterAuction();
        x.withdraw(2);
        Check.due("the last place", x.queuedBarrel(1), 1);
        Check.due("the place behind it", x.queuedBarrel(2), NONE);
        x.passMinutes(1);
        Check.due("the only place", x.queuedBarrel(0), 1);
        Check.due("the place behind it", x.queuedBarrel(1), NONE);
    }
}
