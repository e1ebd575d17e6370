/** The boundary cases of promises 33 to 44, the barrels: each sentence has tests of its own. */
final class BarrelsEdgesTest {
    private static final int NONE = Edges.NONE;
    private static final String M = Edges.MARKET;
    private static final String B = Edges.BUYER;
    private static final String EEL = Edges.EEL;
    private static final String NO_BARREL = "Throws `IndexOutOfBoundsException` if the barrel does not exist";

    private BarrelsEdgesTest() {
    }

    public static void main(String[] args) {
        eels();
        measures();
        fate();
        prices();
        Check.finish();
    }

    private static void eels() {
        Edges.holds("33", "Returns 0 to 20.", BarrelsEdgesTest::barrelCounts);
        Edges.holds("34", "Returns 1 to 9.", BarrelsEdgesTest::numbersOfEels);
        noBarrel("34", LowWaterAuction::eels);
        Edges.holds("35", "Returns 10 to 150.", BarrelsEdgesTest::leastAndGreatestLength);
        Edges.holds("35", "Throws `IndexOutOfBoundsException` if the barrel or the eel does not exist",
            BarrelsEdgesTest::noSuchEel, BarrelsEdgesTest::eelsThatWent);
        Edges.holds("35", "Throws `IndexOutOfBoundsException` if the barrel or the eel does not exist",
            () -> dueNoBarrel((x, barrel) -> x.length(barrel, 0)));
    }

    private static void measures() {
        Edges.holds("36", "Returns the sum.", BarrelsEdgesTest::sums);
        noBarrel("36", LowWaterAuction::totalLength);
        Edges.holds("37", "Returns 10 to 150.", BarrelsEdgesTest::greatestLengths);
        noBarrel("37", LowWaterAuction::greatestLength);
        Edges.holds("38", "Returns the length at the index (number of eels - 1) / 2 if the lengths are sorted in ascending"
            + " order.", BarrelsEdgesTest::middleOfOneToNine, BarrelsEdgesTest::middleOfEquals,
            BarrelsEdgesTest::middleLeavesTheOrder);
        noBarrel("38", LowWaterAuction::middleLength);
        Edges.holds("39", "Returns 1 to 999.", BarrelsEdgesTest::reserves);
        noBarrel("39", LowWaterAuction::reserve);
    }

    private static void fate() {
        Edges.holds("40", "Returns 0 waiting, 1 open, 2 sold, 3 withdrawn.", BarrelsEdgesTest::states,
            BarrelsEdgesTest::withdrawnInBothWays);
        noBarrel("40", LowWaterAuction::stateOf);
        Edges.holds("41", "Returns 0 to 3.", BarrelsEdgesTest::returnsFromZeroToThree);
        noBarrel("41", LowWaterAuction::returns);
        Edges.holds("42", "Returns index of a buyer; NONE if it is not sold.", BarrelsEdgesTest::buyerOfUnsold,
            BarrelsEdgesTest::firstAndLastBuyer);
        noBarrel("42", LowWaterAuction::buyerOf);
    }

    private static void prices() {
        Edges.holds("43", "Returns the price, without the fee; NONE if it is not sold.", BarrelsEdgesTest::priceOfUnsold,
            BarrelsEdgesTest::pricesWithoutFee);
        noBarrel("43", LowWaterAuction::priceOf);
        Edges.holds("44", "Returns (float) price / (float) (sum of the lengths); 0.0f if it is not sold.",
            BarrelsEdgesTest::pricePerLengthOfUnsold, BarrelsEdgesTest::pricesPerLength);
        noBarrel("44", LowWaterAuction::pricePerLength);
    }

    private static void noBarrel(String promise, Edges.Asking asking) {
        Edges.holds(promise, NO_BARREL, () -> dueNoBarrel(asking));
    }

    private static void dueNoBarrel(Edges.Asking asking) {
        for (int barrel : new int[] {-1, 3, 19, 20, Edges.LEAST, Edges.MOST}) {
            Edges.refused("barrel " + barrel, Edges.INDEX, x -> asking.of(x, barrel));
        }
        Edges.refused("no barrel at all", Edges.INDEX, () -> Auctions.of(M + B), x -> asking.of(x, 0));
        Edges.refused("barrel 20 of twenty", Edges.INDEX, Edges::twenty, x -> asking.of(x, 20));
        LowWaterAuction y = Edges.twenty();
        Check.due("barrel 19 of twenty", asking.of(y, 19), asking.of(y, 18));
    }

    private static LowWaterAuction barrels(String barrels) {
        return Auctions.of(M + B + barrels);
    }

    // ---- eels

    private static void barrelCounts() {
        Check.due("none", barrels("").barrelCount(), 0);
        Check.due("one", barrels(EEL).barrelCount(), 1);
        LowWaterAuction x = Edges.twenty();
        Check.due("twenty", x.barrelCount(), 20);
        x.withdraw(19);
        Check.due("a withdrawn one counts", x.barrelCount(), 20);
        Check.due("a sold one counts", Edges.sold().barrelCount(), 3);
    }

    private static void numbersOfEels() {
        LowWaterAuction x = barrels(EEL + "barrel 1" + Edges.NINE + ";");
        Check.due("one", x.eels(0), 1);
        Check.due("nine", x.eels(1), 9);
        x.split(1, 8);
        Check.due("one of nine", x.eels(1), 1);
        Check.due("eight of nine", x.eels(2), 8);
    }

    private static void leastAndGreatestLength() {
        LowWaterAuction x = barrels("barrel 1 10 150 10 10 10 10 10 10 150;");
        Check.due("the first", x.length(0, 0), 10);
        Check.due("the second", x.length(0, 1), 150);
        Check.due("the ninth", x.length(0, 8), 150);
    }

    private static void noSuchEel() {
        for (int eel : new int[] {-1, 3, 8, 9, Edges.LEAST, Edges.MOST}) {
            Edges.refused("eel " + eel + " of three", Edges.INDEX, x -> x.length(0, eel));
        }
        Edges.Making nine = () -> barrels("barrel 1" + Edges.NINE + ";");
        Edges.refused("eel 9 of nine", Edges.INDEX, nine, x -> x.length(0, 9));
        Edges.refused("eel 1 of one", Edges.INDEX, x -> x.length(2, 1));
        Check.due("eel 0 of one", new LowWaterAuction().length(2, 0), 15);
        Check.due("eel 2 of three", new LowWaterAuction().length(0, 2), 30);
    }

    private static void eelsThatWent() {
        LowWaterAuction x = barrels("barrel 1 10 20 30;");
        x.split(0, 1);
        Check.due("the last that stayed", x.length(0, 1), 20);
        Check.dueThrow("the one that went", Edges.INDEX, () -> x.length(0, 2));
        x.undo();
        Check.due("the one that came back", x.length(0, 2), 30);
    }

    // ---- measures

    private static void sums() {
        LowWaterAuction x = barrels(EEL);
        x.addBarrel(1, 9, 150);
        Check.due("the least", x.totalLength(0), 10);
        Check.due("the greatest", x.totalLength(1), 1350);
        x.split(1, 8);
        Check.due("one of nine", x.totalLength(1), 150);
        Check.due("eight of nine", x.totalLength(2), 1200);
    }

    private static void greatestLengths() {
        LowWaterAuction x = barrels(EEL + "barrel 1 150 10 10;barrel 1 10 150 10;barrel 1 10 10 150;barrel 1 10 10 10;");
        Check.due("the least", x.greatestLength(0), 10);
        Check.due("the first", x.greatestLength(1), 150);
        Check.due("the second", x.greatestLength(2), 150);
        Check.due("the last", x.greatestLength(3), 150);
        Check.due("all of them", x.greatestLength(4), 10);
        x.split(3, 1);
        Check.due("without the greatest", x.greatestLength(3), 10);
        Check.due("with the greatest", x.greatestLength(5), 150);
    }

    private static void middleOfOneToNine() {
        String lengths = "";
        int[] middles = {19, 18, 18, 17, 17, 16, 16, 15, 15};
        for (int eels = 1; eels <= 9; eels++) {
            lengths += " " + (20 - eels);
            Check.due("descending " + lengths, barrels("barrel 1" + lengths + ";").middleLength(0), middles[eels - 1]);
        }
        String[] mixed = {" 30 10 20", " 20 30 10", " 10 30 20 40", " 150 10 140 20 130"};
        int[] due = {20, 20, 20, 130};
        for (int i = 0; i < mixed.length; i++) {
            Check.due("mixed" + mixed[i], barrels("barrel 1" + mixed[i] + ";").middleLength(0), due[i]);
        }
    }

    private static void middleOfEquals() {
        Check.due("all equal", barrels("barrel 1" + Edges.NINE + ";").middleLength(0), 10);
        Check.due("the lower half equal", barrels("barrel 1 20 90 20 80;").middleLength(0), 20);
        Check.due("the upper half equal", barrels("barrel 1 90 20 90 30;").middleLength(0), 30);
        Check.due("but one", barrels("barrel 1 40 40 10 40 40;").middleLength(0), 40);
    }

    private static void middleLeavesTheOrder() {
        LowWaterAuction x = barrels("barrel 1 90 10 150 20;");
        x.middleLength(0);
        Check.due("lengths", Auctions.lengths(x, 0), "[90, 10, 150, 20]");
    }

    private static void reserves() {
        LowWaterAuction x = barrels("barrel 1 10;barrel 999 10;");
        Check.due("the least", x.reserve(0), 1);
        Check.due("the greatest", x.reserve(1), 999);
        Check.due("of an open barrel", Edges.opened().reserve(0), 20);
        Check.due("of a sold barrel", Edges.sold().reserve(0), 20);
        Check.due("of a withdrawn barrel", Edges.withdrawn().reserve(0), 20);
    }

    // ---- fate

    private static void states() {
        Check.due("waiting", new LowWaterAuction().stateOf(2), 0);
        Check.due("open", Edges.opened().stateOf(0), 1);
        Check.due("waiting behind the open one", Edges.opened().stateOf(1), 0);
        Check.due("sold", Edges.sold().stateOf(0), 2);
        Check.due("returned", Edges.after(Auctions.of("market 60 60 1 1 0;" + B + EEL), 2).stateOf(0), 0);
    }

    private static void withdrawnInBothWays() {
        Check.due("by withdraw", Edges.withdrawn().stateOf(0), 3);
        Check.due("by the third return", Edges.after(Auctions.of("market 60 60 1 1 0;" + B + EEL), 6).stateOf(0), 3);
    }

    private static void returnsFromZeroToThree() {
        LowWaterAuction x = Auctions.of("market 60 60 1 1 0;" + B + EEL);
        StringBuilder returns = new StringBuilder();
        for (int i = 0; i < 10; i++) {
            returns.append(x.returns(0));
            x.passMinutes(1);
        }
        Check.due("in ten minutes", returns.toString(), "0011223333");
        Check.due("of a withdrawn barrel", Edges.withdrawn().returns(0), 0);
        Check.due("of a sold barrel", Edges.sold().returns(0), 0);
    }

    private static LowWaterAuction[] unsold() {
        LowWaterAuction led = Edges.opened();
        led.nod(2);
        return new LowWaterAuction[] {new LowWaterAuction(), Edges.opened(), led, Edges.withdrawn(),
            Edges.after(Auctions.of("market 60 60 1 1 0;" + B + EEL), 2),
            Edges.after(Auctions.of("market 60 60 1 1 0;" + B + EEL), 6)};
    }

    private static void buyerOfUnsold() {
        for (LowWaterAuction x : unsold()) {
            Check.due("state " + x.stateOf(0), x.buyerOf(0), NONE);
        }
        LowWaterAuction x = Edges.sold();
        x.undo();
        Check.due("the sale is undone", x.buyerOf(0), NONE);
    }

    private static void firstAndLastBuyer() {
        Check.due("the first", Edges.sold().buyerOf(0), 0);
        LowWaterAuction x = Edges.after(Auctions.of("market 60 60 1 1 0;" + B.repeat(6) + EEL), 1);
        x.nod(5);
        x.passMinutes(1);
        Check.due("the last of six", x.buyerOf(0), 5);
    }

    private static void priceOfUnsold() {
        for (LowWaterAuction x : unsold()) {
            Check.due("state " + x.stateOf(0), x.priceOf(0), NONE);
        }
        LowWaterAuction x = Edges.sold();
        x.undo();
        Check.due("the sale is undone", x.priceOf(0), NONE);
    }

    private static void pricesWithoutFee() {
        String half = "market 60 60 1 1 50;buyer 1500 4 999;";
        LowWaterAuction least = Edges.after(Auctions.of(half + "barrel 1 60;"), 3);
        Check.due("the least", least.priceOf(0), 1);
        LowWaterAuction x = Edges.after(Auctions.of(half + "barrel 999 60 60 60 60 60 60;"), 3);
        Check.due("the greatest reserve", x.priceOf(0), 999);
        Check.due("what is left in the purse", x.purse(0), 1500 - 1498);
    }

    private static void pricePerLengthOfUnsold() {
        for (LowWaterAuction x : unsold()) {
            Check.due("state " + x.stateOf(0), x.pricePerLength(0), 0.0f);
        }
    }

    private static void pricesPerLength() {
        String keen = "market 60 60 1 1 0;buyer 9999 2 999;";
        Check.due("1 for 10", Edges.after(Auctions.of(keen + EEL), 3).pricePerLength(0), 1.0f / 10.0f);
        Check.due("20 for 125", Edges.sold().pricePerLength(0), 20.0f / 125.0f);
        LowWaterAuction x = Auctions.of(keen);
        x.addBarrel(1, 9, 150);
        x.addBarrel(7, 9, 143);
        x.passMinutes(6);
        Check.due("1 for 1350", x.pricePerLength(0), 1.0f / 1350.0f);
        Check.due("7 for 1287", x.pricePerLength(1), 7.0f / 1287.0f);
    }
}
