/** Promises 33 to 44: the barrels. */
final class BarrelsTest {
    private static final int NONE = LowWaterAuction.NONE;
    private static final Class<? extends RuntimeException> INDEX = IndexOutOfBoundsException.class;

    private BarrelsTest() {
    }

    public static void main(String[] args) {
        lengths();
        middle();
        fate();
        noSuchBarrel(new LowWaterAuction(), 3);
        noSuchBarrel(new LowWaterAuction(), -1);
        noSuchBarrel(new LowWaterAuction(), 20);
        noSuchBarrel(new LowWaterAuction(), Integer.MIN_VALUE);
        noSuchBarrel(Auctions.of("market 5 5 1 1 0;buyer 0 0 1;"), 0);
        Check.finish();
    }

    private static void lengths() {
        LowWaterAuction x = new LowWaterAuction();
        Check.due("33 barrels", x.barrelCount(), 3);
        Check.due("33 none", Auctions.of("market 5 5 1 1 0;buyer 0 0 1;").barrelCount(), 0);
        Check.due("34 eels", x.eels(0), 3);
        Check.due("34 eels", x.eels(2), 1);
        Check.due("35 length", x.length(0, 0), 40);
        Check.due("35 length", x.length(0, 2), 30);
        Check.due("35 length", x.length(1, 1), 90);
        Check.dueThrow("35 no such eel", INDEX, () -> x.length(1, 2));
        Check.dueThrow("35 no such eel", INDEX, () -> x.length(1, -1));
        Check.dueThrow("35 no such eel", INDEX, () -> x.length(0, Integer.MAX_VALUE));
        Check.dueThrow("35 no such barrel", INDEX, () -> x.length(3, 0));
        Check.due("36 total", x.totalLength(0), 125);
        Check.due("36 total", x.totalLength(2), 15);
        Check.due("37 greatest", x.greatestLength(0), 55);
        Check.due("37 greatest", x.greatestLength(1), 100);
        Check.due("39 reserve", x.reserve(0), 20);
        Check.due("39 reserve", x.reserve(2), 10);
        x.split(0, 2);
        Check.due("33 barrels after a split", x.barrelCount(), 4);
        Check.due("34 eels after a split", x.eels(0), 1);
        Check.dueThrow("35 an eel that is gone", INDEX, () -> x.length(0, 1));
        Check.due("36 total after a split", x.totalLength(0), 40);
        Check.due("37 greatest after a split", x.greatestLength(0), 40);
        Check.due("38 middle after a split", x.middleLength(3), 30);
    }

    private static void middle() {
        LowWaterAuction x = Auctions.of("market 5 5 1 1 0;buyer 0 0 1;"
            + "barrel 1 50;barrel 1 50 20;barrel 1 50 20 30;barrel 1 90 10 70 20;"
            + "barrel 1 20 30 20 30 20;barrel 1 19 18;"
            + "barrel 1 90 80 70 60 50 40 30 20 10;barrel 1 33 33 33 33 33 33 12 11;");
        int[] middle = {50, 20, 30, 20, 20, 18, 50, 33};
        for (int i = 0; i < middle.length; i++) {
            Check.due("38 middle of barrel " + i, x.middleLength(i), middle[i]);
        }
        Check.due("35 asking sorts nothing", Auctions.lengths(x, 3), "[90, 10, 70, 20]");
    }

    private static void fate() {
        LowWaterAuction x = new LowWaterAuction();
        Check.due("40 waiting", x.stateOf(0), 0);
        x.passMinutes(2);
        Check.due("40 open", x.stateOf(0), 1);
        Check.due("42 not sold yet", x.buyerOf(0), NONE);
        Check.due("43 not sold yet", x.priceOf(0), NONE);
        Check.due("44 not sold yet", x.pricePerLength(0), 0.0f);
        x.passMinutes(2);
        Check.due("40 sold", x.stateOf(0), 2);
        Check.due("41 no returns", x.returns(0), 0);
        Check.due("42 buyer", x.buyerOf(0), 0);
        Check.due("43 price without the fee", x.priceOf(0), 20);
        Check.due("44 price per length", x.pricePerLength(0), 20.0f / 125.0f);
        x.passMinutes(4);
        Check.due("44 price per length", x.pricePerLength(1), 50.0f / 190.0f);
        x.passMinutes(3);
        Check.due("41 one return", x.returns(2), 1);
        x.withdraw(2);
        Check.due("40 withdrawn", x.stateOf(2), 3);
        Check.due("41 a withdrawn barrel keeps its returns", x.returns(2), 1);
        Check.due("42 withdrawn", x.buyerOf(2), NONE);
        Check.due("43 withdrawn", x.priceOf(2), NONE);
        Check.due("44 withdrawn", x.pricePerLength(2), 0.0f);
        LowWaterAuction y = Auctions.of("market 60 60 1 1 0;buyer 0 0 1;barrel 1 10;");
        int[] returns = {0, 0, 1, 1, 2, 2, 3, 3};
        int[] states = {0, 1, 0, 1, 0, 1, 3, 3};
        for (int i = 0; i < returns.length; i++) {
            Check.due("41 returns in minute " + i, y.returns(0), returns[i]);
            Check.due("40 state in minute " + i, y.stateOf(0), states[i]);
            y.passMinutes(1);
        }
    }

    private static void noSuchBarrel(LowWaterAuction x, int barrel) {
        Check.dueThrow("34 barrel " + barrel, INDEX, () -> x.eels(barrel));
        Check.dueThrow("35 barrel " + barrel, INDEX, () -> x.length(barrel, 0));
        Check.dueThrow("36 barrel " + barrel, INDEX, () -> x.totalLength(barrel));
        Check.dueThrow("37 barrel " + barrel, INDEX, () -> x.greatestLength(barrel));
        Check.dueThrow("38 barrel " + barrel, INDEX, () -> x.middleLength(barrel));
        Check.dueThrow("39 barrel " + barrel, INDEX, () -> x.reserve(barrel));
        Check.dueThrow("40 barrel " + barrel, INDEX, () -> x.stateOf(barrel));
        Check.dueThrow("41 barrel " + barrel, INDEX, () -> x.returns(barrel));
        Check.dueThrow("42 barrel " + barrel, INDEX, () -> x.buyerOf(barrel));
        Check.dueThrow("43 barrel " + barrel, INDEX, () -> x.priceOf(barrel));
        Check.dueThrow("44 barrel " + barrel, INDEX, () -> x.pricePerLength(barrel));
        Check.dueThrow("51 barrel " + barrel, INDEX, () -> x.worth(0, barrel));
        Check.dueThrow("55 barrel " + barrel, INDEX, () -> x.keenestBuyer(barrel));
        Check.dueThrow("56 barrel " + barrel, INDEX, () -> x.minutesToSale(barrel));
        Check.dueThrow("57 barrel " + barrel, INDEX, () -> x.buyerAfter(barrel, 501));
        Check.dueThrow("63 barrel " + barrel, INDEX, () -> x.writeBarrel(barrel));
    }
}
