/** Promises 20 to 32: the market and its tide, and the bidding. */
final class MarketTest {
    private static final int NONE = LowWaterAuction.NONE;

    private MarketTest() {
    }

    public static void main(String[] args) {
        tide();
        coins();
        bidding();
        queue();
        Check.finish();
    }

    private static void tide() {
        LowWaterAuction x = Auctions.of("market 7 3 9 1 0;buyer 0 0 1;");
        boolean[] open = {true, true, true, false, false, false, false, true, true, true, false};
        int[] horn = {3, 2, 1, 7, 6, 5, 4, 3, 2, 1, 7};
        for (int i = 0; i < open.length; i++) {
            Check.due("20 minute", x.minute(), i);
            Check.due("21 isOpen in minute " + i, x.isOpen(), open[i]);
            Check.due("22 minutesToHorn in minute " + i, x.minutesToHorn(), horn[i]);
            x.passMinutes(1);
        }
        LowWaterAuction always = Auctions.of("market 7 7 9 1 0;buyer 0 0 1;");
        Check.due("22 never", always.minutesToHorn(), NONE);
        always.passMinutes(20);
        Check.due("21 always open", always.isOpen(), true);
        Check.due("22 never", always.minutesToHorn(), NONE);
        LowWaterAuction nearly = Auctions.of("market 7 6 9 1 0;buyer 0 0 1;");
        nearly.passMinutes(6);
        Check.due("21 closed for one minute", nearly.isOpen(), false);
        Check.due("22 a whole period", nearly.minutesToHorn(), 7);
        Auctions.feed(nearly, "market 7 6 9 1 0;buyer 0 0 1;");
        nearly.loadSetup();
        Check.due("20 minutes since the setup", nearly.minute(), 0);
    }

    private static void coins() {
        LowWaterAuction x = Auctions.of("market 60 60 1 17 33;buyer 99 2 100;barrel 10 20;barrel 7 20;");
        Check.due("23 step", x.step(), 17);
        Check.due("24 no coins yet", x.sellerCoins(), 0);
        Check.due("25 no coins yet", x.houseCoins(), 0);
        x.passMinutes(2);
        Check.due("24 a bid is not paid yet", x.sellerCoins(), 0);
        x.passMinutes(1);
        Check.due("24 the price", x.sellerCoins(), 10);
        Check.due("25 the fee, rounded down", x.houseCoins(), 3);
        x.passMinutes(3);
        Check.due("24 both prices", x.sellerCoins(), 17);
        Check.due("25 both fees, each rounded down", x.houseCoins(), 5);
        Check.due("46 the purse paid both", x.purse(0), 77);
        Auctions.feed(x, "market 60 60 1 17 33;buyer 99 2 100;");
        x.loadSetup();
        Check.due("24 coins since the setup", x.sellerCoins(), 0);
        Check.due("25 coins since the setup", x.houseCoins(), 0);
    }

    private static void bidding() {
        LowWaterAuction x = Auctions.of("market 60 60 2 6 0;buyer 99 2 100;buyer 99 0 1;barrel 10 20;barrel 500 20;");
        noBidding(x);
        x.passMinutes(1);
        Check.due("26 open barrel", x.openBarrel(), 0);
        Check.due("27 no bid yet", x.bid(), NONE);
        Check.due("28 no leader yet", x.leader(), NONE);
        Check.due("29 the reserve", x.nextBid(), 10);
        Check.due("30 quiet", x.quiet(), 0);
        x.passMinutes(1);
        Check.due("27 bid", x.bid(), 10);
        Check.due("28 leader", x.leader(), 0);
        Check.due("29 bid plus step", x.nextBid(), 16);
        Check.due("30 quiet after a nod", x.quiet(), 0);
        x.passMinutes(1);
        Check.due("30 quiet", x.quiet(), 1);
        x.nod(1);
        Check.due("27 bid", x.bid(), 16);
        Check.due("28 leader", x.leader(), 1);
        Check.due("30 quiet after a nod", x.quiet(), 0);
        x.passMinutes(2);
        noBidding(x);
        Check.due("42 sold to the second", x.buyerOf(0), 1);
        x.passMinutes(1);
        Check.due("26 the next barrel", x.openBarrel(), 1);
        Check.due("27 no bid for it", x.bid(), NONE);
        Check.due("28 no leader", x.leader(), NONE);
        Check.due("29 its reserve", x.nextBid(), 500);
    }

    private static void noBidding(LowWaterAuction x) {
        Check.due("26 no open barrel", x.openBarrel(), NONE);
        Check.due("27 no open barrel", x.bid(), NONE);
        Check.due("28 no open barrel", x.leader(), NONE);
        Check.due("29 no open barrel", x.nextBid(), NONE);
        Check.due("30 no open barrel", x.quiet(), NONE);
    }

    private static void queue() {
        LowWaterAuction x = new LowWaterAuction();
        Check.due("31 queue", x.queueLength(), 3);
        Check.due("32 first", x.queuedBarrel(0), 0);
        Check.due("32 last", x.queuedBarrel(2), 2);
        Check.due("32 behind the last", x.queuedBarrel(3), NONE);
        Check.due("32 negative", x.queuedBarrel(-1), NONE);
        Check.due("32 far away", x.queuedBarrel(Integer.MAX_VALUE), NONE);
        Check.due("32 far away", x.queuedBarrel(Integer.MIN_VALUE), NONE);
        x.passMinutes(1);
        Check.due("31 the open barrel does not wait", x.queueLength(), 2);
        Check.due("32 first", x.queuedBarrel(0), 1);
        Check.due("32 behind the last", x.queuedBarrel(2), NONE);
        LowWaterAuction empty = Auctions.of("market 60 60 2 6 0;buyer 99 2 100;");
        Check.due("31 no barrels", empty.queueLength(), 0);
        Check.due("32 no barrels", empty.queuedBarrel(0), NONE);
        empty.passMinutes(3);
        Check.due("26 nothing to open", empty.openBarrel(), NONE);
    }
}
