/** The boundary cases of the steps in which a minute passes: each sentence has tests of its own. */
final class MinuteEdgesTest {
    private static final int NONE = Edges.NONE;
    private static final String EEL = Edges.EEL;
    /** A buyer who nods as long as his purse suffices, and one who never nods by himself. */
    private static final String KEEN = "buyer 9999 2 999;";
    private static final String DULL = "buyer 9999 0 1;";

    private MinuteEdgesTest() {
    }

    public static void main(String[] args) {
        theMinuteGrows();
        theHorn();
        opening();
        thinking();
        quiet();
        Check.finish();
    }

    private static void theMinuteGrows() {
        Edges.holds("Minute", "1. The minute grows by 1.", MinuteEdgesTest::minutesOfAnyKind, MinuteEdgesTest::minutesWithoutBarrels);
    }

    private static void theHorn() {
        Edges.holds("Minute", "2. If the horn blows and a barrel is open, it is closed.", MinuteEdgesTest::hornWithLeader,
            MinuteEdgesTest::hornWithoutLeader, MinuteEdgesTest::hornOfTheThirdReturn, MinuteEdgesTest::hornWithoutOpenBarrel);
        Edges.holds("Minute", "3. If the market is closed, nothing more happens.", MinuteEdgesTest::nobodyThinksAtTheHorn,
            MinuteEdgesTest::nothingIsOpenedWhileClosed);
    }

    private static void opening() {
        Edges.holds("Minute", "4. If no barrel is open, the first barrel of the queue is opened, if there is one, with quiet 0,"
            + " no bid and no leader.", MinuteEdgesTest::firstOfTheQueue, MinuteEdgesTest::emptyQueue,
            MinuteEdgesTest::firstMinuteOfLowWater);
        Edges.holds("Minute", "Nothing more happens in this minute.", MinuteEdgesTest::nobodyThinksAtTheOpening,
            MinuteEdgesTest::notClosedAtTheOpening);
    }

    private static void thinking() {
        Edges.holds("Minute", "5. Otherwise the buyers think.", MinuteEdgesTest::firstMinuteOfThinking);
        Edges.holds("Minute", "They are asked one after another, in ascending order, beginning with the buyer after the leader"
            + " (with buyer 0 if there is no leader), and with buyer 0 after the last one, each buyer once.",
            MinuteEdgesTest::noLeader, MinuteEdgesTest::afterTheLeader, MinuteEdgesTest::afterTheLastBuyer,
            MinuteEdgesTest::theBuyerBeforeTheLeader, MinuteEdgesTest::theOnlyBuyer);
        Edges.holds("Minute", "The first one who can nod and to whom the worth of the barrel is at least the next bid nods.",
            MinuteEdgesTest::justWorthIt, MinuteEdgesTest::justPayable, MinuteEdgesTest::onlyTheFirst);
    }

    private static void quiet() {
        Edges.holds("Minute", "6. If nobody nodded in step 5, the quiet grows by 1.", MinuteEdgesTest::quietGrows,
            MinuteEdgesTest::quietStartsAgain);
        Edges.holds("Minute", "If it is now the patience of the market, which is 1 to 9, the barrel is closed.",
            MinuteEdgesTest::patiences, MinuteEdgesTest::leastPatience, MinuteEdgesTest::greatestPatience,
            MinuteEdgesTest::patienceWithLeader);
    }

    private static void minutesOfAnyKind() {
        LowWaterAuction x = Auctions.of("market 5 2 1 1 0;" + DULL + EEL);
        for (int minute = 1; minute <= 20; minute++) {
            x.passMinutes(1);
            Check.due("open or closed, with a barrel or without", x.minute(), minute);
        }
    }

    private static void minutesWithoutBarrels() {
        LowWaterAuction x = Auctions.of(Edges.MARKET + DULL);
        x.passMinutes(200);
        x.passMinutes(200);
        x.passMinutes(1);
        Check.due("no barrel at all", x.minute(), 401);
    }

    private static void hornWithLeader() {
        LowWaterAuction x = Auctions.of("market 5 3 9 1 0;" + KEEN + EEL);
        x.passMinutes(2);
        Check.due("leader in the minute before", x.leader(), 0);
        Check.due("sold by the horn", x.passMinutes(1), 1);
        Check.due("state", x.stateOf(0), 2);
        Check.due("no open barrel", x.openBarrel(), NONE);
        Check.due("no quiet", x.quiet(), NONE);
        Check.due("no bid", x.bid(), NONE);
    }

    private static void hornWithoutLeader() {
        LowWaterAuction x = Auctions.of("market 5 3 9 1 0;" + DULL + EEL + EEL);
        x.passMinutes(2);
        Check.due("nothing is sold", x.passMinutes(1), 0);
        Check.due("returns", x.returns(0), 1);
        Check.due("queue", Auctions.queue(x), "[1, 0]");
        Check.due("no open barrel", x.openBarrel(), NONE);
    }

    private static void hornOfTheThirdReturn() {
        LowWaterAuction x = Auctions.of("market 5 3 9 1 0;" + DULL + EEL);
        x.passMinutes(12);
        Check.due("opened a third time", x.openBarrel(), 0);
        x.passMinutes(1);
        Check.due("returns", x.returns(0), 3);
        Check.due("state", x.stateOf(0), 3);
        Check.due("queue", Auctions.queue(x), "[]");
    }

    private static void hornWithoutOpenBarrel() {
        LowWaterAuction x = Auctions.of("market 5 3 2 1 0;" + DULL + EEL);
        x.withdraw(0);
        Check.due("nothing is sold", x.passMinutes(3), 0);
        Check.due("returns of a withdrawn barrel", x.returns(0), 0);
        Check.due("nothing waits", x.queueLength(), 0);
        LowWaterAuction y = Auctions.of("market 5 3 1 1 0;" + DULL + EEL + EEL);
        Check.due("nothing is sold", y.passMinutes(3), 0);
        Check.due("closed before the horn", y.returns(0), 1);
        Check.due("never opened", y.returns(1), 0);
        Check.due("queue", Auctions.queue(y), "[1, 0]");
    }

    private static void nobodyThinksAtTheHorn() {
        LowWaterAuction x = Auctions.of("market 5 2 9 1 0;" + KEEN + EEL);
        x.passMinutes(1);
        Check.due("who would nod now", x.nextNodder(), 0);
        x.passMinutes(1);
        Check.due("nods", x.nods(0), 0);
        Check.due("returns", x.returns(0), 1);
    }

    private static void nothingIsOpenedWhileClosed() {
        LowWaterAuction x = Auctions.of("market 9 1 9 1 0;" + KEEN + EEL);
        for (int minute = 1; minute <= 8; minute++) {
            x.passMinutes(1);
            Check.due("open barrel in minute " + minute, x.openBarrel(), NONE);
            Check.due("queue in minute " + minute, x.queueLength(), 1);
        }
    }

    private static void firstOfTheQueue() {
        LowWaterAuction x = new LowWaterAuction();
        x.withdraw(0);
        x.passMinutes(1);
        Check.due("open barrel", x.openBarrel(), 1);
        Check.due("state", x.stateOf(1), 1);
        Check.due("quiet", x.quiet(), 0);
        Check.due("bid", x.bid(), NONE);
        Check.due("leader", x.leader(), NONE);
        Check.due("queue", Auctions.queue(x), "[2]");
    }

    private static void emptyQueue() {
        LowWaterAuction x = Auctions.of(Edges.MARKET + KEEN + EEL);
        x.passMinutes(1);
        Check.due("the last of the queue", x.queueLength(), 0);
        x.passMinutes(199);
        Check.due("sold", x.stateOf(0), 2);
        Check.due("nothing to open", x.openBarrel(), NONE);
        Check.due("no quiet", x.quiet(), NONE);
        x.addBarrel(5, 1, 10);
        x.passMinutes(1);
        Check.due("a barrel that came later", x.openBarrel(), 1);
        Check.due("its bid", x.bid(), NONE);
        Check.due("its leader", x.leader(), NONE);
    }

    private static void firstMinuteOfLowWater() {
        LowWaterAuction x = Auctions.of("market 9 1 9 1 0;" + KEEN + EEL);
        x.passMinutes(9);
        Check.due("open barrel", x.openBarrel(), 0);
    }

    private static void nobodyThinksAtTheOpening() {
        LowWaterAuction x = Auctions.of(Edges.MARKET + KEEN + EEL);
        x.passMinutes(1);
        Check.due("open barrel", x.openBarrel(), 0);
        Check.due("nods", x.nods(0), 0);
        Check.due("leader", x.leader(), NONE);
    }

    private static void notClosedAtTheOpening() {
        LowWaterAuction x = Auctions.of("market 60 60 1 1 0;" + DULL + EEL);
        x.passMinutes(1);
        Check.due("open barrel", x.openBarrel(), 0);
        Check.due("quiet", x.quiet(), 0);
        Check.due("returns", x.returns(0), 0);
    }

    private static void firstMinuteOfThinking() {
        LowWaterAuction x = Auctions.of("market 5 3 9 1 0;" + KEEN + EEL + EEL);
        x.passMinutes(1);
        Check.due("nods in the minute of the opening", x.nods(0), 0);
        x.passMinutes(1);
        Check.due("nods a minute later, the last one of low water", x.nods(0), 1);
        x.passMinutes(3);
        Check.due("nods in the first minute of the next low water", x.nods(0), 1);
        x.passMinutes(1);
        Check.due("nods a minute later", x.nods(0), 2);
    }

    private static void noLeader() {
        LowWaterAuction x = Auctions.of(Edges.MARKET + KEEN.repeat(3) + EEL);
        x.passMinutes(2);
        Check.due("buyer 0 is asked first", x.leader(), 0);
    }

    private static void afterTheLeader() {
        LowWaterAuction x = Auctions.of(Edges.MARKET + KEEN.repeat(3) + EEL);
        x.passMinutes(1);
        x.nod(1);
        x.passMinutes(1);
        Check.due("the buyer after buyer 1", x.leader(), 2);
    }

    private static void afterTheLastBuyer() {
        LowWaterAuction x = Auctions.of(Edges.MARKET + KEEN.repeat(6) + EEL);
        x.passMinutes(1);
        x.nod(5);
        x.passMinutes(1);
        Check.due("buyer 0 after buyer 5", x.leader(), 0);
        LowWaterAuction y = Auctions.of(Edges.MARKET + DULL + KEEN + KEEN + EEL);
        y.passMinutes(1);
        y.nod(2);
        y.passMinutes(1);
        Check.due("buyer 1 after buyer 2, as buyer 0 does not want it", y.leader(), 1);
    }

    private static void theBuyerBeforeTheLeader() {
        LowWaterAuction x = Auctions.of(Edges.MARKET + KEEN + DULL + DULL + EEL);
        x.passMinutes(1);
        x.nod(1);
        x.passMinutes(1);
        Check.due("the last one who is asked", x.leader(), 0);
        LowWaterAuction y = Auctions.of(Edges.MARKET + DULL + DULL + KEEN + EEL);
        y.passMinutes(2);
        Check.due("the last one without a leader", y.leader(), 2);
    }

    private static void theOnlyBuyer() {
        LowWaterAuction x = Auctions.of(Edges.MARKET + KEEN + EEL);
        x.passMinutes(3);
        Check.due("the leader does not nod again", x.nods(0), 1);
        Check.due("quiet", x.quiet(), 1);
    }

    private static void justWorthIt() {
        String rest = "market 60 60 9 2 0;buyer 9999 2 99;buyer 9999 2 100;barrel ";
        Check.due("a worth of 9.9 and of 10.0 for 10", Edges.after(Auctions.of(rest + "10 10;"), 2).leader(), 1);
        Check.due("a worth of 9.9 for 9", Edges.after(Auctions.of(rest + "9 10;"), 2).leader(), 0);
        Check.due("a worth of 10.0 for 11", Edges.after(Auctions.of(rest + "11 10;"), 2).leader(), NONE);
        LowWaterAuction x = Edges.after(Auctions.of(rest + "8 10;"), 3);
        Check.due("a worth of 10.0 for the bid 8 and the step 2", x.bid(), 10);
        Check.due("its leader", x.leader(), 1);
        LowWaterAuction y = Edges.after(Auctions.of(rest + "9 10;"), 3);
        Check.due("a worth of 10.0 for the bid 9 and the step 2", y.bid(), 9);
    }

    private static void justPayable() {
        String rest = "market 60 60 9 1 50;buyer 14 2 999;buyer 15 2 999;barrel ";
        Check.due("purses of 14 and 15 for a cost of 15", Edges.after(Auctions.of(rest + "10 10;"), 2).leader(), 1);
        Check.due("a purse of 14 for a cost of 13", Edges.after(Auctions.of(rest + "9 10;"), 2).leader(), 0);
        Check.due("purses for a cost of 16", Edges.after(Auctions.of(rest + "11 10;"), 2).leader(), NONE);
        Check.due("a purse of 0", Edges.after(Auctions.of("market 60 60 9 1 0;buyer 0 2 999;" + EEL), 2).leader(), NONE);
    }

    private static void onlyTheFirst() {
        LowWaterAuction x = Auctions.of(Edges.MARKET + KEEN.repeat(6) + EEL);
        x.passMinutes(2);
        int nods = 0;
        for (int buyer = 0; buyer < 6; buyer++) {
            nods += x.nods(buyer);
        }
        Check.due("nods in one minute", nods, 1);
        Check.due("the bid is the reserve", x.bid(), 1);
    }

    private static void quietGrows() {
        LowWaterAuction x = Auctions.of(Edges.MARKET + DULL + EEL);
        for (int quiet = 0; quiet <= 8; quiet++) {
            x.passMinutes(1);
            Check.due("quiet in minute " + x.minute(), x.quiet(), quiet);
        }
    }

    private static void quietStartsAgain() {
        LowWaterAuction x = Auctions.of("market 60 60 2 1 0;" + KEEN + KEEN + EEL);
        x.passMinutes(2);
        Check.due("quiet after the first nod", x.quiet(), 0);
        x.passMinutes(1);
        Check.due("quiet after the second nod", x.quiet(), 0);
        x.setTaste(0, 0, 1);
        x.passMinutes(1);
        Check.due("nobody nodded", x.quiet(), 1);
        x.setTaste(0, 2, 999);
        x.passMinutes(1);
        Check.due("quiet after the third nod", x.quiet(), 0);
        Check.due("bid after the third nod", x.bid(), 3);
    }

    private static void patiences() {
        Texts.badSetups(Edges.RANGE, "market 60 60 |0 1 0;" + DULL, "market 60 60 |10 1 0;" + DULL);
        for (int patience = 1; patience <= 9; patience++) {
            LowWaterAuction x = Auctions.of("market 60 60 " + patience + " 1 0;" + DULL + EEL);
            x.passMinutes(patience);
            Check.due("one quiet minute before the patience of " + patience, x.stateOf(0), 1);
            x.passMinutes(1);
            Check.due("the patience of " + patience, x.stateOf(0), 0);
        }
    }

    private static void leastPatience() {
        LowWaterAuction x = Auctions.of("market 60 60 1 1 0;" + DULL + EEL);
        x.passMinutes(2);
        Check.due("closed in the first quiet minute", x.returns(0), 1);
        Check.due("no open barrel", x.openBarrel(), NONE);
    }

    private static void greatestPatience() {
        LowWaterAuction x = Auctions.of("market 60 60 9 1 0;" + DULL + EEL);
        x.passMinutes(9);
        Check.due("eight quiet minutes", x.quiet(), 8);
        x.passMinutes(1);
        Check.due("closed in the ninth quiet minute", x.returns(0), 1);
    }

    private static void patienceWithLeader() {
        LowWaterAuction x = Auctions.of("market 60 60 2 1 0;" + KEEN + EEL);
        Check.due("a nod and one quiet minute", x.passMinutes(3), 0);
        Check.due("sold after two quiet minutes", x.passMinutes(1), 1);
        Check.due("state", x.stateOf(0), 2);
        Check.due("the next one is opened a minute later", x.openBarrel(), NONE);
    }
}
