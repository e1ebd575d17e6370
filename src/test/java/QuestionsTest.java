/** Promises 52 to 59: the questions, which change nothing. */
final class QuestionsTest {
    private static final int NONE = LowWaterAuction.NONE;
    private static final Class<? extends RuntimeException> ARGUMENT = IllegalArgumentException.class;
    // Worth 10.0 and 12.0: with step 1 the barrel goes for 11 in minute 7, with step 4 for 12 in minute 5.
    private static final String TWO_BUYERS = "market 60 60 2 1 0;buyer 99 2 100;buyer 99 2 120;barrel 8 20;";

    private QuestionsTest() {
    }

    public static void main(String[] args) {
        whyNotNod();
        costOf();
        nextNodder();
        keenestBuyer();
        forecasts();
        farForecasts();
        bestStep();
        nothingChanges();
        Check.finish();
    }

    private static void whyNotNod() {
        LowWaterAuction x = Auctions.of("market 10 4 9 4 50;buyer 15 0 1;buyer 14 0 1;buyer 99 0 1;barrel 10 20;");
        Check.due("52 no open barrel", x.whyNotNod(0), 2);
        x.passMinutes(1);
        Check.due("52 can nod", x.whyNotNod(0), 0);
        Check.due("52 purse too small", x.whyNotNod(1), 4);
        x.nod(0);
        Check.due("52 the leader, whose purse is too small too", x.whyNotNod(0), 3);
        Check.due("52 purse too small", x.whyNotNod(1), 4);
        Check.due("52 can nod", x.whyNotNod(2), 0);
        x.passMinutes(3);
        Check.due("52 closed, and no open barrel", x.whyNotNod(0), 1);
        Check.due("52 closed, and purse too small", x.whyNotNod(1), 1);
        x.passMinutes(6);
        Check.due("52 no barrel is left", x.whyNotNod(2), 2);
    }

    private static void costOf() {
        LowWaterAuction x = Auctions.of("market 5 5 1 1 33;buyer 0 0 1;");
        Check.due("53 cost of 0", x.costOf(0), 0);
        Check.due("53 cost of 3", x.costOf(3), 3);
        Check.due("53 cost of 4", x.costOf(4), 5);
        Check.due("53 cost of 9999", x.costOf(9999), 9999 + 3299);
        Check.dueThrow("53 cost of -1", ARGUMENT, () -> x.costOf(-1));
        Check.dueThrow("53 cost of 10000", ARGUMENT, () -> x.costOf(10000));
        Check.due("53 no fee", Auctions.of("market 5 5 1 1 0;buyer 0 0 1;").costOf(9999), 9999);
        Check.due("53 fee 50", Auctions.of("market 5 5 1 1 50;buyer 0 0 1;").costOf(9999), 14998);
    }

    private static void nextNodder() {
        LowWaterAuction x = Auctions.of(TWO_BUYERS);
        Check.due("54 no open barrel", x.nextNodder(), NONE);
        int[] nodders = {0, 1, 0, 1, NONE, NONE, NONE};
        for (int nodder : nodders) {
            x.passMinutes(1);
            Check.due("54 in minute " + x.minute(), x.nextNodder(), nodder);
        }
        LowWaterAuction y = Auctions.of("market 10 4 9 1 0;buyer 7 2 999;buyer 8 2 80;buyer 8 2 79;barrel 8 20;");
        y.passMinutes(1);
        Check.due("54 the purse and the worth suffice just so", y.nextNodder(), 1);
        y.nod(1);
        Check.due("54 nobody else", y.nextNodder(), NONE);
        y.fund(0, 2);
        Check.due("54 round after the last", y.nextNodder(), 0);
        y.passMinutes(3);
        Check.due("54 closed", y.nextNodder(), NONE);
    }

    private static void keenestBuyer() {
        LowWaterAuction x = Auctions.of("market 5 5 1 1 0;buyer 0 0 1;buyer 0 2 30;buyer 0 1 20;buyer 0 2 30;"
            + "barrel 1 10;barrel 1 100 90;barrel 1 15;");
        Check.due("55 the smallest among equals", x.keenestBuyer(0), 1);
        Check.due("55 the greatest worth", x.keenestBuyer(1), 2);
        Check.due("55 3.0 and 3.0", x.keenestBuyer(2), 1);
        x.setTaste(1, 0, 1);
        Check.due("55 the other of equals", x.keenestBuyer(0), 3);
        LowWaterAuction six = Auctions.of("market 5 5 1 1 0;" + "buyer 0 1 5;".repeat(5) + "buyer 0 1 6;barrel 1 10;");
        Check.due("55 the last of six", six.keenestBuyer(0), 5);
        x.setTaste(2, 0, 1);
        x.setTaste(3, 0, 1);
        Check.due("55 worth nothing to anybody", x.keenestBuyer(0), 0);
    }

    private static void forecasts() {
        LowWaterAuction x = Auctions.of(TWO_BUYERS);
        Check.due("56 minutes to the sale", x.minutesToSale(0), 7);
        Check.due("57 before the sale", x.buyerAfter(0, 6), NONE);
        Check.due("57 at the sale", x.buyerAfter(0, 7), 1);
        Check.due("57 long after", x.buyerAfter(0, 500), 1);
        Check.due("58 before the sale", x.sellerCoinsAfter(6), 0);
        Check.due("58 at the sale", x.sellerCoinsAfter(7), 11);
        Check.due("58 long after", x.sellerCoinsAfter(500), 11);
        Check.dueThrow("57 -1 minutes", ARGUMENT, () -> x.buyerAfter(0, -1));
        Check.dueThrow("57 501 minutes", ARGUMENT, () -> x.buyerAfter(0, 501));
        Check.dueThrow("58 -1 minutes", ARGUMENT, () -> x.sellerCoinsAfter(-1));
        Check.dueThrow("58 501 minutes", ARGUMENT, () -> x.sellerCoinsAfter(501));
        x.passMinutes(4);
        Check.due("56 from now", x.minutesToSale(0), 3);
        Check.due("58 from now", x.sellerCoinsAfter(3), 11);
        Check.due("57 now", x.buyerAfter(0, 0), NONE);
        x.passMinutes(3);
        Check.due("56 sold", x.minutesToSale(0), 0);
        Check.due("57 sold", x.buyerAfter(0, 0), 1);
        Check.due("58 now", x.sellerCoinsAfter(0), 11);
        LowWaterAuction y = new LowWaterAuction();
        Check.due("56 never sold", y.minutesToSale(2), NONE);
        Check.due("57 never sold", y.buyerAfter(2, 500), NONE);
        Check.due("56 the second in the queue", y.minutesToSale(1), 8);
        y.withdraw(0);
        Check.due("56 withdrawn", y.minutesToSale(0), NONE);
        Check.due("57 withdrawn", y.buyerAfter(0, 500), NONE);
    }

    private static void farForecasts() {
        String far = "market 60 60 1 1 0;buyer 9999 1 100;buyer 9999 1 100;barrel ";
        LowWaterAuction x = Auctions.of(far + "3 150 150 150 50;");
        Check.due("56 within 500 minutes", x.minutesToSale(0), 500);
        Check.due("57 after 499 minutes", x.buyerAfter(0, 499), NONE);
        Check.due("57 after 500 minutes", x.buyerAfter(0, 500), 1);
        Check.due("58 after 500 minutes", x.sellerCoinsAfter(500), 500);
        LowWaterAuction y = Auctions.of(far + "2 150 150 150 50;");
        Check.due("56 after 501 minutes", y.minutesToSale(0), NONE);
        y.passMinutes(1);
        Check.due("56 after 500 minutes", y.minutesToSale(0), 500);
        LowWaterAuction z = Auctions.of("market 60 2 9 1 0;buyer 99 2 999;barrel 1 10;");
        Check.due("56 over the horns", z.minutesToSale(0), 62);
    }

    private static void bestStep() {
        LowWaterAuction x = Auctions.of(TWO_BUYERS);
        Check.dueThrow("59 -1 minutes", ARGUMENT, () -> x.bestStep(-1));
        Check.dueThrow("59 501 minutes", ARGUMENT, () -> x.bestStep(501));
        Check.due("59 nothing is sold", x.bestStep(0), 1);
        Check.due("59 nothing is sold", x.bestStep(3), 1);
        Check.due("59 only without a second nod", x.bestStep(4), 5);
        Check.due("59 the second nod", x.bestStep(5), 4);
        Check.due("59 long after", x.bestStep(500), 4);
        Check.due("15 the step stays", x.step(), 1);
        LowWaterAuction y = Auctions.of("market 60 60 2 1 0;buyer 999 2 600;buyer 999 2 600;barrel 10 20;");
        Check.due("59 step 50", y.bestStep(5), 50);
    }

    private static void nothingChanges() {
        LowWaterAuction x = new LowWaterAuction();
        x.passMinutes(2);
        x.writeQueue();
        String state = Auctions.state(x);
        x.minutesToSale(1);
        x.buyerAfter(0, 300);
        x.sellerCoinsAfter(300);
        x.bestStep(100);
        x.nextNodder();
        x.whyNotNod(1);
        x.keenestBuyer(1);
        Check.due("52 to 59 leave the state", Auctions.state(x), state);
        Check.due("52 to 59 leave the output", Auctions.output(x), "1,2");
        Check.due("52 to 59 are no changes", x.undo(), 0);
    }
}
