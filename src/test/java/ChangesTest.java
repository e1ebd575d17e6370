import java.util.NoSuchElementException;

/** Promises 8 to 16: the single changes, and the steps of a minute. */
final class ChangesTest {
    private static final Class<? extends RuntimeException> INDEX = IndexOutOfBoundsException.class;
    private static final Class<? extends RuntimeException> ARGUMENT = IllegalArgumentException.class;
    private static final Class<? extends RuntimeException> STATE = IllegalStateException.class;

    private ChangesTest() {
    }

    public static void main(String[] args) {
        nod();
        passMinutes();
        horn();
        bidding();
        addBarrel();
        split();
        splitRefused();
        withdraw();
        fund();
        setReserve();
        setStep();
        setTaste();
        Check.finish();
    }

    /** The call must throw, and leave the outline of the state and the changes that can be undone. */
    private static void refused(String what, LowWaterAuction x, Class<? extends RuntimeException> want, Check.Call call) {
        String before = Auctions.outline(x);
        x.setStep(x.step());
        int changes = x.undo();
        Check.dueThrow(what, want, call);
        Check.due(what + " leaves the state", Auctions.outline(x), before);
        x.setStep(x.step());
        Check.due(what + " is no change", x.undo(), changes);
    }

    private static void nod() {
        LowWaterAuction x = Auctions.of("market 10 6 3 4 50;buyer 15 0 1;buyer 14 0 1;buyer 99 0 1;barrel 10 20;");
        refused("8 no open barrel", x, STATE, () -> x.nod(0));
        refused("8 no such buyer", x, INDEX, () -> x.nod(3));
        refused("8 no such buyer", x, INDEX, () -> x.nod(-1));
        x.passMinutes(2);
        refused("8 purse too small", x, STATE, () -> x.nod(1));
        Check.due("8 the reserve", x.nod(0), 10);
        Check.due("8 bid", x.bid(), 10);
        Check.due("8 leader", x.leader(), 0);
        Check.due("8 quiet", x.quiet(), 0);
        Check.due("8 nods", x.nods(0), 1);
        Check.due("8 nothing is paid yet", x.purse(0), 15);
        refused("8 the leader", x, STATE, () -> x.nod(0));
        Check.due("8 bid plus step", x.nod(2), 14);
        refused("8 the purse is too small for the step", x, STATE, () -> x.nod(0));
        Check.due("8 can be undone", x.undo(), 3);
        Check.due("8 undone leader", x.leader(), 0);
        x.passMinutes(4);
        Check.due("8 sold", x.priceOf(0), 10);
        refused("8 the market is closed", x, STATE, () -> x.nod(2));
    }

    private static void passMinutes() {
        LowWaterAuction x = new LowWaterAuction();
        refused("9 no minutes", x, ARGUMENT, () -> x.passMinutes(0));
        refused("9 201 minutes", x, ARGUMENT, () -> x.passMinutes(201));
        refused("9 -1 minutes", x, ARGUMENT, () -> x.passMinutes(-1));
        Check.due("9 barrel 0 is opened", x.passMinutes(1), 0);
        Check.due("9 barrel 0", x.openBarrel(), 0);
        Check.due("9 nobody has thought yet", x.leader(), LowWaterAuction.NONE);
        x.passMinutes(1);
        Check.due("9 buyer 0 thinks", x.leader(), 0);
        Check.due("9 quiet after a nod", x.quiet(), 0);
        x.passMinutes(1);
        Check.due("9 quiet", x.quiet(), 1);
        Check.due("9 sold", x.passMinutes(1), 1);
        Check.due("9 the next is opened later", x.openBarrel(), LowWaterAuction.NONE);
        Check.due("9 purse", x.purse(0), 178);
        Check.due("9 sellers", x.sellerCoins(), 20);
        Check.due("9 house", x.houseCoins(), 2);
        Check.due("9 sold again", x.passMinutes(4), 1);
        Check.due("9 purse", x.purse(0), 123);
        Check.due("9 nobody wants barrel 2", x.passMinutes(3), 0);
        Check.due("9 one return", x.returns(2), 1);
        Check.due("9 waiting again", x.stateOf(2), 0);
        x.passMinutes(11);
        Check.due("9 two returns", x.returns(2), 2);
        Check.due("9 waiting again", Auctions.queue(x), "[2]");
        x.passMinutes(3);
        Check.due("9 three returns", x.returns(2), 3);
        Check.due("9 withdrawn", x.stateOf(2), 3);
        Check.due("9 empty queue", Auctions.queue(x), "[]");
        Check.due("9 200 minutes", x.passMinutes(200), 0);
        Check.due("9 the minute of an idle market", x.minute(), 225);
        Check.due("9 can be undone", x.undo(), 7);
        Check.due("9 undone", x.minute(), 25);
        LowWaterAuction y = new LowWaterAuction();
        Check.due("9 all barrels at once", y.passMinutes(200), 2);
        Check.due("9 the minute after all barrels", y.minute(), 200);
    }

    private static void horn() {
        LowWaterAuction x = Auctions.of("market 5 3 9 1 0;buyer 99 2 100;barrel 10 20;barrel 10 20;");
        x.passMinutes(2);
        Check.due("9 leader before the horn", x.leader(), 0);
        Check.due("9 the horn closes the barrel", x.passMinutes(1), 1);
        Check.due("9 sold by the horn", x.stateOf(0), 2);
        x.passMinutes(1);
        Check.due("9 nothing is opened while closed", x.openBarrel(), LowWaterAuction.NONE);
        x.passMinutes(1);
        Check.due("9 opened at low water", x.openBarrel(), 1);

        LowWaterAuction y = Auctions.of("market 5 1 9 1 0;buyer 99 2 100;barrel 10 20;barrel 10 20;");
        Check.due("9 the first minute is no low water", y.passMinutes(4), 0);
        Check.due("9 nothing is open", y.openBarrel(), LowWaterAuction.NONE);
        y.passMinutes(1);
        Check.due("9 opened", y.openBarrel(), 0);
        y.passMinutes(1);
        Check.due("9 returned by the horn", y.returns(0), 1);
        Check.due("9 at the end of the queue", Auctions.queue(y), "[1, 0]");
        Check.due("9 nobody had a minute to think", y.passMinutes(200), 0);
        Check.due("9 withdrawn by the horn", y.stateOf(0), 3);
        Check.due("9 withdrawn by the horn", y.stateOf(1), 3);

        LowWaterAuction z = Auctions.of("market 5 5 1 1 0;buyer 99 2 100;barrel 10 20;");
        z.passMinutes(2);
        z.passMinutes(1);
        Check.due("9 always open: closed by patience 1", z.stateOf(0), 2);
    }

    private static void bidding() {
        LowWaterAuction x = Auctions.of("market 60 60 2 1 0;buyer 99 2 100;buyer 99 2 120;barrel 8 20;");
        int[] leaders = {-1, 0, 1, 0, 1, 1};
        int[] bids = {-1, 8, 9, 10, 11, 11};
        int[] quiets = {0, 0, 0, 0, 0, 1};
        for (int i = 0; i < leaders.length; i++) {
            x.passMinutes(1);
            Check.due("9 leader of minute " + x.minute(), x.leader(), leaders[i]);
            Check.due("9 bid of minute " + x.minute(), x.bid(), bids[i]);
            Check.due("9 quiet of minute " + x.minute(), x.quiet(), quiets[i]);
        }
        Check.due("9 sold at last", x.passMinutes(1), 1);
        Check.due("9 to the last leader", x.buyerOf(0), 1);
        Check.due("9 nods of the other", x.nods(0), 2);

        LowWaterAuction y = Auctions.of("market 60 60 2 1 0;buyer 99 2 999;buyer 99 2 999;buyer 99 2 999;barrel 8 20;");
        y.passMinutes(1);
        y.nod(1);
        int[] next = {2, 0, 1, 2};
        for (int leader : next) {
            y.passMinutes(1);
            Check.due("9 the buyer after the leader", y.leader(), leader);
        }
        Check.due("9 a nod makes it quiet 0", y.quiet(), 0);

        LowWaterAuction z = Auctions.of("market 60 60 3 1 10;buyer 10 2 999;buyer 99 2 100;barrel 10 20;");
        z.passMinutes(2);
        Check.due("9 worth just the next bid, and a purse too small", z.leader(), 1);
        z.passMinutes(2);
        Check.due("9 quiet under the patience", z.quiet(), 2);
        z.fund(0, 90);
        z.passMinutes(1);
        Check.due("9 the other has coins now", z.leader(), 0);
    }

    private static void addBarrel() {
        LowWaterAuction x = new LowWaterAuction();
        Check.due("10 index", x.addBarrel(999, 9, 150), 3);
        Check.due("10 lengths", Auctions.lengths(x, 3), "[150, 150, 150, 150, 150, 150, 150, 150, 150]");
        Check.due("10 reserve", x.reserve(3), 999);
        Check.due("10 state", x.stateOf(3), 0);
        Check.due("10 returns", x.returns(3), 0);
        Check.due("10 index", x.addBarrel(1, 1, 10), 4);
        Check.due("10 lengths", Auctions.lengths(x, 4), "[10]");
        Check.due("10 queue", Auctions.queue(x), "[0, 1, 2, 3, 4]");
        int[][] wrong = {{0, 1, 10}, {1000, 1, 10}, {1, 0, 10}, {1, 10, 10}, {1, 1, 9}, {1, 1, 151}, {-1, -1, -1}};
        for (int[] w : wrong) {
            refused("10 out of range", x, ARGUMENT, () -> x.addBarrel(w[0], w[1], w[2]));
        }
        Check.due("10 can be undone", x.undo(), 1);
        Check.due("10 undone", x.barrelCount(), 4);
        for (int i = 4; i < 20; i++) {
            Check.due("10 up to twenty", x.addBarrel(5, 2, 30), i);
        }
        refused("10 twenty barrels", x, STATE, () -> x.addBarrel(5, 2, 30));
        refused("10 the argument comes first", x, ARGUMENT, () -> x.addBarrel(5, 2, 9));
    }

    private static void split() {
        LowWaterAuction x = Auctions.of("market 60 60 1 1 0;buyer 0 0 1;barrel 30 11 12 13 14;barrel 7 20 21 22;barrel 1 40 41;");
        Check.due("11 index", x.split(0, 1), 3);
        Check.due("11 the last eels", Auctions.lengths(x, 3), "[14]");
        Check.due("11 the first eels", Auctions.lengths(x, 0), "[11, 12, 13]");
        Check.due("11 the new reserve", x.reserve(3), 7);
        Check.due("11 the old reserve", x.reserve(0), 23);
        Check.due("11 queue", Auctions.queue(x), "[0, 1, 2, 3]");
        Check.due("11 state", x.stateOf(3), 0);
        Check.due("11 total of the old", x.totalLength(0), 36);
        Check.due("11 greatest of the old", x.greatestLength(0), 13);
        Check.due("11 total of the new", x.totalLength(3), 14);
        Check.due("11 two of three", x.split(1, 2), 4);
        Check.due("11 the order of the eels", Auctions.lengths(x, 4), "[21, 22]");
        Check.due("11 7 * 2 / 3", x.reserve(4), 4);
        Check.due("11 the rest of 7", x.reserve(1), 3);
        x.split(2, 1);
        Check.due("11 at least 1", x.reserve(5), 1);
        Check.due("11 the old one keeps 1", x.reserve(2), 1);
        Check.due("11 can be undone", x.undo(), 3);
        Check.due("11 undone", Auctions.lengths(x, 2), "[40, 41]");
        Check.due("11 undone", x.barrelCount(), 5);
        x.passMinutes(2);
        Check.due("11 returned", x.returns(0), 1);
        Check.due("11 split of a returned barrel", x.split(0, 2), 5);
        Check.due("11 the old one keeps its returns", x.returns(0), 1);
        Check.due("11 the new one has none", x.returns(5), 0);
        Check.due("11 queue", Auctions.queue(x), "[1, 2, 3, 4, 0, 5]");
        Check.due("11 eight of nine", x.split(x.addBarrel(9, 9, 60), 8), 7);
        Check.due("11 eight eels", x.eels(7), 8);
        Check.due("11 one eel", x.eels(6), 1);
    }

    private static void splitRefused() {
        LowWaterAuction x = new LowWaterAuction();
        refused("11 no such barrel", x, INDEX, () -> x.split(3, 1));
        refused("11 no such barrel", x, INDEX, () -> x.split(-1, 0));
        refused("11 no eels", x, ARGUMENT, () -> x.split(0, 0));
        refused("11 nine eels", x, ARGUMENT, () -> x.split(2, 9));
        refused("11 all eels", x, STATE, () -> x.split(0, 3));
        refused("11 more eels", x, STATE, () -> x.split(0, 8));
        refused("11 the only eel", x, STATE, () -> x.split(2, 1));
        x.passMinutes(1);
        refused("11 open", x, STATE, () -> x.split(0, 1));
        x.withdraw(1);
        refused("11 withdrawn", x, STATE, () -> x.split(1, 1));
        x.passMinutes(3);
        refused("11 sold", x, STATE, () -> x.split(0, 1));
        for (int i = 3; i < 20; i++) {
            x.addBarrel(5, 2, 30);
        }
        refused("11 twenty barrels", x, STATE, () -> x.split(19, 1));
        refused("11 the argument comes first", x, ARGUMENT, () -> x.split(19, 9));
    }

    private static void withdraw() {
        LowWaterAuction x = new LowWaterAuction();
        refused("12 no such barrel", x, INDEX, () -> x.withdraw(3));
        refused("12 no such barrel", x, INDEX, () -> x.withdraw(-1));
        Check.due("12 waiting barrels", x.withdraw(1), 2);
        Check.due("12 state", x.stateOf(1), 3);
        Check.due("12 returns", x.returns(1), 0);
        Check.due("12 queue", Auctions.queue(x), "[0, 2]");
        refused("12 withdrawn already", x, STATE, () -> x.withdraw(1));
        x.passMinutes(1);
        refused("12 open", x, STATE, () -> x.withdraw(0));
        Check.due("12 the last of the queue", x.withdraw(2), 0);
        Check.due("12 can be undone", x.undo(), 2);
        Check.due("12 undone", Auctions.queue(x), "[2]");
        x.passMinutes(3);
        refused("12 sold", x, STATE, () -> x.withdraw(0));
    }

    private static void fund() {
        LowWaterAuction x = new LowWaterAuction();
        refused("13 no such buyer", x, INDEX, () -> x.fund(3, 0));
        refused("13 no such buyer", x, INDEX, () -> x.fund(-1, 1));
        refused("13 no coins", x, ARGUMENT, () -> x.fund(0, 0));
        refused("13 10000 coins", x, ARGUMENT, () -> x.fund(0, 10000));
        Check.due("13 coins", x.fund(1, 1), 91);
        Check.due("13 the purse", x.purse(1), 91);
        Check.due("13 the others", x.purse(0), 200);
        for (int i = 1; i <= 9; i++) {
            Check.due("13 coins", x.fund(0, 9999), 200 + 9999 * i);
        }
        Check.due("13 up to the limit", x.fund(0, 9807), 99998);
        Check.due("13 what exceeds is not put in", x.fund(0, 9999), 99999);
        Check.due("13 nothing more", x.fund(0, 1), 99999);
        Check.due("13 no coin is lost", x.coinError(), 0);
        Check.due("13 can be undone", x.undo(), 7);
        x.undo();
        Check.due("13 undone", x.purse(0), 99998);
    }

    private static void setReserve() {
        LowWaterAuction x = new LowWaterAuction();
        refused("14 no such barrel", x, INDEX, () -> x.setReserve(3, 0));
        refused("14 no such barrel", x, INDEX, () -> x.setReserve(-1, 1));
        refused("14 reserve 0", x, ARGUMENT, () -> x.setReserve(0, 0));
        refused("14 reserve 1000", x, ARGUMENT, () -> x.setReserve(0, 1000));
        Check.due("14 previous reserve", x.setReserve(0, 999), 20);
        Check.due("14 previous reserve", x.setReserve(0, 1), 999);
        Check.due("14 reserve", x.reserve(0), 1);
        Check.due("14 can be undone", x.undo(), 1);
        Check.due("14 undone", x.reserve(0), 999);
        x.passMinutes(1);
        refused("14 open", x, STATE, () -> x.setReserve(0, 5));
        refused("14 the argument comes first", x, ARGUMENT, () -> x.setReserve(0, 0));
        x.withdraw(1);
        refused("14 withdrawn", x, STATE, () -> x.setReserve(1, 5));
    }

    private static void setStep() {
        LowWaterAuction x = new LowWaterAuction();
        refused("15 step 0", x, ARGUMENT, () -> x.setStep(0));
        refused("15 step 51", x, ARGUMENT, () -> x.setStep(51));
        Check.due("15 previous step", x.setStep(50), 5);
        Check.due("15 previous step", x.setStep(1), 50);
        Check.due("15 step", x.step(), 1);
        x.passMinutes(2);
        x.setStep(9);
        Check.due("15 the step of an open barrel", x.nextBid(), 29);
        Check.due("15 can be undone", x.undo(), 3);
        Check.due("15 undone", x.nextBid(), 21);
    }

    private static void setTaste() {
        LowWaterAuction x = new LowWaterAuction();
        refused("16 no such buyer", x, INDEX, () -> x.setTaste(3, 5, 0));
        refused("16 no such buyer", x, INDEX, () -> x.setTaste(-1, 1, 1));
        refused("16 style -1", x, ARGUMENT, () -> x.setTaste(0, -1, 1));
        refused("16 style 5", x, ARGUMENT, () -> x.setTaste(0, 5, 1));
        refused("16 factor 0", x, ARGUMENT, () -> x.setTaste(0, 1, 0));
        refused("16 factor 1000", x, ARGUMENT, () -> x.setTaste(0, 1, 1000));
        Check.due("16 previous style", x.setTaste(0, 4, 999), 1);
        Check.due("16 previous style", x.setTaste(0, 0, 1), 4);
        Check.due("16 style", x.style(0), 0);
        Check.due("16 factor", x.factor(0), 1);
        Check.due("16 the others", x.style(1), 2);
        Check.due("16 can be undone", x.undo(), 1);
        Check.due("16 undone", x.factor(0), 999);
        Check.dueThrow("16 nothing else to undo", NoSuchElementException.class, () -> x.undo() + x.undo());
    }
}
