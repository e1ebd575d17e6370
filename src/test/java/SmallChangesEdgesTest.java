/** The boundary cases of promises 12 to 16, from withdraw to setTaste: each sentence has tests of its own. */
final class SmallChangesEdgesTest {
    private static final int[] NO_BARRELS = {-1, 3, 19, 20, Edges.LEAST, Edges.MOST};
    private static final int[] NO_BUYERS = {-1, 3, 5, 6, Edges.LEAST, Edges.MOST};
    private static final String M = Edges.MARKET;
    private static final String B = Edges.BUYER;
    private static final String EEL = Edges.EEL;

    private SmallChangesEdgesTest() {
    }

    public static void main(String[] args) {
        withdraw();
        fund();
        setReserve();
        setStep();
        setTaste();
        Check.finish();
    }

    private static void withdraw() {
        Edges.holds("12", "Withdraws a waiting barrel.", SmallChangesEdgesTest::withdrawnPlaces,
            SmallChangesEdgesTest::withdrawnAfterReturns);
        Edges.holds("12", "Returns the number of waiting barrels afterwards.", SmallChangesEdgesTest::waitingAfterwards);
        Edges.holds("12", "Throws `IndexOutOfBoundsException` if the barrel does not exist",
            SmallChangesEdgesTest::withdrawNone);
        Edges.holds("12", "Throws `IllegalStateException` if the barrel is not waiting",
            SmallChangesEdgesTest::withdrawNotWaiting);
    }

    private static void fund() {
        Edges.holds("13", "Puts coins into the purse of a buyer, which never contains more than 99999; what exceeds it is not put"
            + " in.", SmallChangesEdgesTest::fullPurse, SmallChangesEdgesTest::whatExceeds);
        Edges.holds("13", "Returns the coins in the purse.", SmallChangesEdgesTest::coinsInThePurse);
        Edges.holds("13", "Throws `IndexOutOfBoundsException` if the buyer does not exist", SmallChangesEdgesTest::fundNobody);
        Edges.holds("13", "Throws `IllegalArgumentException` if coins is out of range", SmallChangesEdgesTest::wrongCoins);
    }

    private static void setReserve() {
        Edges.holds("14", "Sets the reserve of a waiting barrel.", SmallChangesEdgesTest::reserveOfReturned);
        Edges.holds("14", "Returns the previous reserve.", SmallChangesEdgesTest::previousReserves);
        Edges.holds("14", "Throws `IndexOutOfBoundsException` if the barrel does not exist",
            SmallChangesEdgesTest::reserveOfNone);
        Edges.holds("14", "Throws `IllegalArgumentException` if reserve is out of range", SmallChangesEdgesTest::wrongReserves);
        Edges.holds("14", "Throws `IllegalStateException` if the barrel is not waiting",
            SmallChangesEdgesTest::reserveOfNotWaiting);
    }

    private static void setStep() {
        Edges.holds("15", "Returns the previous step.", SmallChangesEdgesTest::previousSteps);
        Edges.holds("15", "Throws `IllegalArgumentException` if step is out of range", SmallChangesEdgesTest::wrongSteps);
    }

    private static void setTaste() {
        Edges.holds("16", "Gives a buyer another style and factor.", SmallChangesEdgesTest::tasteOfOneBuyer);
        Edges.holds("16", "Returns the previous style.", SmallChangesEdgesTest::previousStyles);
        Edges.holds("16", "Throws `IndexOutOfBoundsException` if the buyer does not exist",
            SmallChangesEdgesTest::tasteOfNobody);
        Edges.holds("16", "Throws `IllegalArgumentException` if style or factor is out of range",
            SmallChangesEdgesTest::wrongTastes);
    }

    // ---- withdraw

    private static void withdrawnPlaces() {
        String[] queues = {"[1, 2]", "[0, 2]", "[0, 1]"};
        for (int barrel = 0; barrel < 3; barrel++) {
            LowWaterAuction x = new LowWaterAuction();
            x.withdraw(barrel);
            Check.due("queue without barrel " + barrel, Auctions.queue(x), queues[barrel]);
            Check.due("state of barrel " + barrel, x.stateOf(barrel), 3);
            Check.due("returns of barrel " + barrel, x.returns(barrel), 0);
            Check.due("barrels", x.barrelCount(), 3);
        }
    }

    private static void withdrawnAfterReturns() {
        LowWaterAuction x = Auctions.of("market 60 60 1 1 0;" + B + EEL);
        x.passMinutes(4);
        x.withdraw(0);
        Check.due("state", x.stateOf(0), 3);
        Check.due("a withdrawal is no return", x.returns(0), 2);
        x.passMinutes(200);
        Check.due("never opened again", x.returns(0), 2);
    }

    private static void waitingAfterwards() {
        LowWaterAuction x = new LowWaterAuction();
        Check.due("two of three", x.withdraw(1), 2);
        Check.due("one of two", x.withdraw(0), 1);
        Check.due("none", x.withdraw(2), 0);
        LowWaterAuction open = Edges.opened();
        Check.due("the open barrel does not count", open.withdraw(2), 1);
        LowWaterAuction twenty = Edges.twenty();
        Check.due("nineteen of twenty", twenty.withdraw(19), 19);
    }

    private static void withdrawNone() {
        for (int barrel : NO_BARRELS) {
            Edges.refused("barrel " + barrel, Edges.INDEX, x -> x.withdraw(barrel));
        }
        Edges.refused("no barrel at all", Edges.INDEX, () -> Auctions.of(M + B), x -> x.withdraw(0));
    }

    private static void withdrawNotWaiting() {
        Edges.refused("open", Edges.STATE, Edges::opened, x -> x.withdraw(0));
        Edges.refused("sold", Edges.STATE, Edges::sold, x -> x.withdraw(0));
        Edges.refused("withdrawn", Edges.STATE, Edges::withdrawn, x -> x.withdraw(0));
    }

    // ---- fund

    /** The only buyer has so many coins, at least 9999. */
    private static LowWaterAuction rich(int coins) {
        LowWaterAuction x = Auctions.of(M + "buyer 9999 0 1;");
        for (int purse = 9999; purse < coins; purse = x.purse(0)) {
            x.fund(0, Math.min(coins - purse, 9999));
        }
        return x;
    }

    private static void fullPurse() {
        Check.due("up to one coin less", rich(99997).fund(0, 1), 99998);
        Check.due("just full", rich(99998).fund(0, 1), 99999);
        Check.due("just full by many coins", rich(90000).fund(0, 9999), 99999);
        Check.due("a coin too many", rich(99998).fund(0, 2), 99999);
        Check.due("full already", rich(99999).fund(0, 1), 99999);
        Check.due("full already, and the most coins", rich(99999).fund(0, 9999), 99999);
    }

    private static void whatExceeds() {
        LowWaterAuction x = rich(99998);
        x.fund(0, 9999);
        Check.due("coinError", x.coinError(), 0);
        Check.due("it can be undone", x.undo(), 7);
        Check.due("the purse before", x.purse(0), 99998);
        Check.due("coinError after undo", x.coinError(), 0);
    }

    private static void coinsInThePurse() {
        LowWaterAuction x = Auctions.of(M + "buyer 0 0 1;buyer 5 0 1;");
        Check.due("the least", x.fund(0, 1), 1);
        Check.due("the most", x.fund(0, 9999), 10000);
        Check.due("the other purse", x.purse(1), 5);
        Check.due("the last buyer", x.fund(1, 9999), 10004);
    }

    private static void fundNobody() {
        for (int buyer : NO_BUYERS) {
            Edges.refused("buyer " + buyer, Edges.INDEX, x -> x.fund(buyer, 1));
        }
    }

    private static void wrongCoins() {
        for (int coins : new int[] {0, -1, 10000, Edges.LEAST, Edges.MOST}) {
            Edges.refused(coins + " coins", Edges.ARGUMENT, x -> x.fund(0, coins));
            Edges.refused(coins + " coins into a full purse", Edges.ARGUMENT, () -> rich(99999), x -> x.fund(0, coins));
        }
    }

    // ---- setReserve, setStep

    private static void reserveOfReturned() {
        LowWaterAuction x = Auctions.of("market 60 60 1 1 0;" + B + EEL + EEL);
        x.passMinutes(2);
        Check.due("previous", x.setReserve(0, 999), 1);
        Check.due("reserve", x.reserve(0), 999);
        Check.due("the other barrel", x.reserve(1), 1);
        Check.due("returns", x.returns(0), 1);
        Check.due("queue", Auctions.queue(x), "[1, 0]");
    }

    private static void previousReserves() {
        LowWaterAuction x = new LowWaterAuction();
        Check.due("of the setup", x.setReserve(0, 1), 20);
        Check.due("the least", x.setReserve(0, 999), 1);
        Check.due("the greatest", x.setReserve(0, 999), 999);
        Check.due("the same again", x.setReserve(0, 5), 999);
        Check.due("reserve", x.reserve(0), 5);
    }

    private static void reserveOfNone() {
        for (int barrel : NO_BARRELS) {
            Edges.refused("barrel " + barrel, Edges.INDEX, x -> x.setReserve(barrel, 5));
        }
    }

    private static void wrongReserves() {
        for (int reserve : new int[] {0, -1, 1000, Edges.LEAST, Edges.MOST}) {
            Edges.refused("reserve " + reserve, Edges.ARGUMENT, x -> x.setReserve(0, reserve));
        }
    }

    private static void reserveOfNotWaiting() {
        Edges.refused("open", Edges.STATE, Edges::opened, x -> x.setReserve(0, 5));
        Edges.refused("sold", Edges.STATE, Edges::sold, x -> x.setReserve(0, 5));
        Edges.refused("withdrawn", Edges.STATE, Edges::withdrawn, x -> x.setReserve(0, 5));
    }

    private static void previousSteps() {
        LowWaterAuction x = new LowWaterAuction();
        Check.due("of the setup", x.setStep(1), 5);
        Check.due("the least", x.setStep(50), 1);
        Check.due("the greatest", x.setStep(50), 50);
        Check.due("the same again", x.setStep(2), 50);
        Check.due("step", x.step(), 2);
    }

    private static void wrongSteps() {
        for (int step : new int[] {0, -1, 51, Edges.LEAST, Edges.MOST}) {
            Edges.refused("step " + step, Edges.ARGUMENT, x -> x.setStep(step));
        }
    }

    // ---- setTaste

    private static void tasteOfOneBuyer() {
        LowWaterAuction x = Auctions.of(M + "buyer 7 1 5;".repeat(6) + EEL);
        x.setTaste(0, 0, 1);
        x.setTaste(5, 4, 999);
        Check.due("style of the first", x.style(0), 0);
        Check.due("factor of the first", x.factor(0), 1);
        Check.due("style of the last", x.style(5), 4);
        Check.due("factor of the last", x.factor(5), 999);
        Check.due("style of another", x.style(4), 1);
        Check.due("factor of another", x.factor(1), 5);
        Check.due("purse", x.purse(5), 7);
    }

    private static void previousStyles() {
        LowWaterAuction x = new LowWaterAuction();
        Check.due("of the setup", x.setTaste(0, 4, 1), 1);
        Check.due("the greatest", x.setTaste(0, 0, 1), 4);
        Check.due("the least", x.setTaste(0, 0, 1), 0);
        Check.due("the same again", x.setTaste(0, 2, 999), 0);
    }

    private static void tasteOfNobody() {
        for (int buyer : NO_BUYERS) {
            Edges.refused("buyer " + buyer, Edges.INDEX, x -> x.setTaste(buyer, 1, 1));
        }
    }

    private static void wrongTastes() {
        for (int style : new int[] {-1, 5, Edges.LEAST, Edges.MOST}) {
            Edges.refused("style " + style, Edges.ARGUMENT, x -> x.setTaste(0, style, 1));
        }
        for (int factor : new int[] {0, -1, 1000, Edges.LEAST, Edges.MOST}) {
            Edges.refused("factor " + factor, Edges.ARGUMENT, x -> x.setTaste(0, 1, factor));
        }
    }
}
