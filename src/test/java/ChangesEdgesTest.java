/** The boundary cases of promises 6 to 11, from loadSetup to split: each sentence has tests of its own. */
final class ChangesEdgesTest {
    private static final int NONE = Edges.NONE;
    private static final String M = Edges.MARKET;
    private static final String B = Edges.BUYER;
    private static final String EEL = Edges.EEL;

    private ChangesEdgesTest() {
    }

    public static void main(String[] args) {
        loadSetup();
        runScript();
        nod();
        passMinutes();
        addBarrel();
        split();
        Check.finish();
    }

    private static void loadSetup() {
        Edges.holds("6", "Parses the input buffer as a setup and replaces the state by it.", ChangesEdgesTest::replacesAll,
            ChangesEdgesTest::forgetsGreaterSetup, ChangesEdgesTest::forgetsForecasts);
        Edges.holds("6", "Snapshots and earlier changes stay.", ChangesEdgesTest::snapshotsStay, ChangesEdgesTest::changesStay);
        Edges.holds("6", "The buffer is empty afterwards, even if an exception is thrown.",
            ChangesEdgesTest::bufferAfterSetups);
        Edges.holds("6", "Returns the number of barrels.", ChangesEdgesTest::numbersOfBarrels);
        Edges.holds("6", "Throws `IllegalArgumentException` if the text has an error; then only the buffer and the reported"
            + " error change", ChangesEdgesTest::lateErrorOfSetup);
    }

    private static void runScript() {
        Edges.holds("7", "Parses the input buffer as a script and executes it.", ChangesEdgesTest::scriptsOfEachLength);
        Edges.holds("7", "The buffer is empty afterwards, even if an exception is thrown.",
            ChangesEdgesTest::bufferAfterScripts);
        Edges.holds("7", "Returns the number of commands that were executed.", ChangesEdgesTest::numbersOfCommands);
        Edges.holds("7", "Throws `IllegalArgumentException` if the text has an error; then only the buffer and the reported"
            + " error change", ChangesEdgesTest::lateErrorOfScript);
    }

    private static void nod() {
        Edges.holds("8", "Returns the bid afterwards.", ChangesEdgesTest::firstAndNextBid);
        Edges.holds("8", "Throws `IndexOutOfBoundsException` if the buyer does not exist", ChangesEdgesTest::nodOfNobody);
        Edges.holds("8", "Throws `IllegalStateException` if the buyer cannot nod", ChangesEdgesTest::nodWhileClosed,
            ChangesEdgesTest::nodWithoutBarrel, ChangesEdgesTest::nodOfLeader, ChangesEdgesTest::nodOfSmallPurse);
    }

    private static void passMinutes() {
        Edges.holds("9", "`minutes`: 1 to 200", ChangesEdgesTest::leastAndMostMinutes);
        Edges.holds("9", "Returns the number of barrels that were sold in these minutes.", ChangesEdgesTest::noneSold,
            ChangesEdgesTest::allSold, ChangesEdgesTest::soldByPatienceAndHorn);
        Edges.holds("9", "Throws `IllegalArgumentException` if minutes is out of range", ChangesEdgesTest::wrongMinutes);
    }

    private static void addBarrel() {
        Edges.holds("10", "Adds a barrel whose eels all have the same length, at the end of the queue.",
            ChangesEdgesTest::addedToEmptyQueue, ChangesEdgesTest::addedBehindReturned, ChangesEdgesTest::addedInPlaceOfUndone);
        Edges.holds("10", "Returns the index of the barrel.", ChangesEdgesTest::indexesOfBarrels);
        Edges.holds("10", "Throws `IllegalArgumentException` if reserve, eels or length is out of range",
            ChangesEdgesTest::wrongBarrels);
        Edges.holds("10", "Throws `IllegalStateException` if there are 20 barrels", ChangesEdgesTest::addedBarrel20,
            ChangesEdgesTest::addedBarrel21);
    }

    private static void split() {
        Edges.holds("11", "Splits a waiting barrel.", ChangesEdgesTest::splitOfReturned);
        Edges.holds("11", "Its last eels go into a new barrel, which gets a new number and is waiting at the end of the queue.",
            ChangesEdgesTest::oneOfTwo, ChangesEdgesTest::eightOfNine, ChangesEdgesTest::oneOfNine,
            ChangesEdgesTest::endOfTheQueue);
        Edges.holds("11", "The reserve of the new barrel is reserve * eels / (number of eels before), the old barrel keeps the"
            + " reserve minus this quotient, and after that both are made at least 1.", ChangesEdgesTest::quotients,
            ChangesEdgesTest::atLeastOne, ChangesEdgesTest::greatestReserve);
        Edges.holds("11", "The new barrel has no returns, and the old one keeps its returns.", ChangesEdgesTest::twoReturns);
        Edges.holds("11", "`eels`: 1 to 8, the number of eels of the new barrel", ChangesEdgesTest::leastAndMostEels);
        Edges.holds("11", "Returns the index of the new barrel.", ChangesEdgesTest::indexesOfSplits);
        Edges.holds("11", "Throws `IndexOutOfBoundsException` if the barrel does not exist", ChangesEdgesTest::splitOfNone);
        Edges.holds("11", "Throws `IllegalArgumentException` if eels is out of range", ChangesEdgesTest::wrongEels);
        Edges.holds("11", "Throws `IllegalStateException` if the barrel is not waiting, it contains no more than so many eels,"
            + " or there are 20 barrels", ChangesEdgesTest::splitOfNotWaiting, ChangesEdgesTest::splitOfTooFew,
            ChangesEdgesTest::splitIntoBarrel20, ChangesEdgesTest::splitIntoBarrel21);
    }

    // ---- loadSetup

    private static void replacesAll() {
        LowWaterAuction x = new LowWaterAuction();
        x.passMinutes(5);
        x.nod(2);
        x.fund(0, 9999);
        x.setStep(50);
        Auctions.feed(x, Edges.FIRST_SETUP);
        Check.due("barrels", x.loadSetup(), 3);
        Check.due("state", Auctions.state(x), Auctions.state(new LowWaterAuction()));
        Auctions.feed(x, M + B);
        x.loadSetup();
        Check.due("a setup without barrels", Auctions.state(x), "minute 0 open true horn -1 step 1 fee 100 sellers 0 house 0"
            + " error 0 barrel -1 bid -1 leader -1 next -1 quiet -1 queue []\nbuyer 100 0 1 0 0");
    }

    /** What a greater setup has used must begin anew. */
    private static void forgetsGreaterSetup() {
        LowWaterAuction x = Auctions.of("market 60 60 1 1 0;" + B + "buyer 9999 2 999;".repeat(5) + EEL.repeat(20));
        x.passMinutes(200);
        String two = M + "buyer 5 1 1;" + "buyer 6 1 1;" + EEL + EEL;
        Auctions.feed(x, two);
        x.loadSetup();
        Check.due("state", Auctions.state(x), Auctions.state(Auctions.of(two)));
        Check.due("a third barrel", x.addBarrel(1, 1, 20), 2);
        Check.due("its eels", Auctions.lengths(x, 2), "[20]");
        Check.due("its sum", x.totalLength(2), 20);
        Check.due("its greatest eel", x.greatestLength(2), 20);
        Check.due("its price", x.priceOf(2), NONE);
    }

    /** A forecast that ends with a leader after a sale, and a wrong setup, must leave nothing for a setup either. */
    private static void forgetsForecasts() {
        LowWaterAuction x = new LowWaterAuction();
        Check.due("coins in minute 6", x.sellerCoinsAfter(6), 20);
        Auctions.feed(x, Edges.FIRST_SETUP);
        x.loadSetup();
        Check.due("after a forecast", Auctions.state(x), Auctions.state(new LowWaterAuction()));
        Auctions.feed(x, "market 9 9 1 1 0;" + B.repeat(6) + EEL.repeat(20) + "x");
        Check.dueThrow("a wrong setup", Edges.ARGUMENT, x::loadSetup);
        Auctions.feed(x, Edges.FIRST_SETUP);
        x.loadSetup();
        Check.due("after a wrong setup", Auctions.state(x), Auctions.state(new LowWaterAuction()));
        Check.due("a forecast after all that", x.sellerCoinsAfter(500), 70);
    }

    private static void snapshotsStay() {
        LowWaterAuction x = Edges.opened();
        x.saveSnapshot(0);
        x.passMinutes(1);
        x.saveSnapshot(1);
        Auctions.feed(x, M + B);
        x.loadSetup();
        Check.due("slot 0", x.restoreSnapshot(0), 1);
        Check.due("barrels of slot 0", x.barrelCount(), 3);
        Check.due("slot 1", x.restoreSnapshot(1), 2);
    }

    private static void changesStay() {
        LowWaterAuction x = new LowWaterAuction();
        for (int step = 11; step <= 18; step++) {
            x.setStep(step);
        }
        Auctions.feed(x, M + B);
        x.loadSetup();
        Check.due("the setup is undone", x.undo(), 7);
        Check.due("step", x.step(), 18);
        for (int left = 6; left >= 0; left--) {
            Check.due("changes left", x.undo(), left);
        }
        Check.due("the oldest of eight changes made room for the setup", x.step(), 11);
        Check.dueThrow("nothing more", Edges.ELEMENT, x::undo);
    }

    private static void bufferAfterSetups() {
        LowWaterAuction x = new LowWaterAuction();
        Auctions.feed(x, M + B);
        x.loadSetup();
        Edges.dueBuffered("a good setup", x, 0);
        Auctions.feed(x, M + B + "#" + " ".repeat(400));
        Check.dueThrow("a wrong setup", Edges.ARGUMENT, x::loadSetup);
        Edges.dueBuffered("a wrong setup", x, 0);
        Check.due("append after a wrong setup", x.append(0, 0, 0, 0, 0), 20);
        x.truncate(0);
        Check.dueThrow("an empty setup", Edges.ARGUMENT, x::loadSetup);
        Edges.dueBuffered("an empty setup", x, 0);
    }

    private static void numbersOfBarrels() {
        for (int barrels : new int[] {0, 1, 19, 20}) {
            LowWaterAuction x = new LowWaterAuction();
            Auctions.feed(x, M + B + EEL.repeat(barrels));
            Check.due("barrels of the setup", x.loadSetup(), barrels);
            Check.due("barrels afterwards", x.barrelCount(), barrels);
        }
    }

    private static void lateErrorOfSetup() {
        String setup = "market 5 1 9 50 50;" + "buyer 1 1 1;".repeat(6) + "barrel 9 20;".repeat(20);
        LowWaterAuction x = Edges.opened();
        x.nod(2);
        x.saveSnapshot(0);
        x.writeBarrel(1);
        String before = Auctions.state(x) + Auctions.output(x);
        Auctions.feed(x, setup + "x");
        Check.dueThrow("a word too many", Edges.ARGUMENT, x::loadSetup);
        Check.due("all but buffer and error", Auctions.state(x) + Auctions.output(x), before);
        Check.due("the reported error", x.errorPosition(), setup.length());
        Edges.dueBuffered("a wrong setup", x, 0);
        Check.due("the snapshot", x.restoreSnapshot(0), 1);
        Check.due("changes before the restoring", x.undo(), 2);
        Check.due("minutes pass as before", x.passMinutes(3), 1);
    }

    // ---- runScript

    private static void scriptsOfEachLength() {
        LowWaterAuction x = new LowWaterAuction();
        Check.due("no byte", x.runScript(), 0);
        Check.due("seven bytes", Auctions.run(x, "wait 1;"), 1);
        Check.due("500 bytes", Auctions.run(x, "wait 2;" + " ".repeat(486) + "wait 3;"), 2);
        Check.due("minutes", x.minute(), 6);
    }

    private static void bufferAfterScripts() {
        LowWaterAuction x = new LowWaterAuction();
        Auctions.run(x, "wait 1;");
        Edges.dueBuffered("a good script", x, 0);
        Check.due("the script again", x.runScript(), 0);
        Check.due("minutes of the script", x.minute(), 1);
        Auctions.run(x, "nod 0;nod 0;wait 1;");
        Edges.dueBuffered("a script that was executed in part", x, 0);
        Auctions.feed(x, "wait 1;wait 0;wait 1;");
        Check.dueThrow("a wrong script", Edges.ARGUMENT, x::runScript);
        Edges.dueBuffered("a wrong script", x, 0);
        Check.due("append after a wrong script", x.append(0, 0, 0, 0, 0), 20);
    }

    private static void numbersOfCommands() {
        Texts.goodScripts(0, "", "nod 0;wait 1;");
        Texts.goodScripts(1, "wait 1;", "pay 0 1;nod 0;wait 1;");
        Texts.goodScripts(19, "wait 1;".repeat(19), "pay 0 1;".repeat(19) + "nod 0;");
        Texts.goodScripts(20, "wait 1;".repeat(20));
    }

    private static void lateErrorOfScript() {
        String script = "pay 0 7;wait 9;withdraw 2;barrel 9 30;".repeat(5);
        LowWaterAuction x = Edges.opened();
        x.saveSnapshot(0);
        x.writeBarrel(1);
        String before = Auctions.state(x) + Auctions.output(x);
        Auctions.feed(x, script + "x");
        Check.dueThrow("a word too many", Edges.ARGUMENT, x::runScript);
        Check.due("all but buffer and error", Auctions.state(x) + Auctions.output(x), before);
        Check.due("the reported error", x.errorPosition(), script.length());
        Check.due("the snapshot", x.restoreSnapshot(0), 1);
        Check.due("changes before the restoring", x.undo(), 1);
    }

    // ---- nod

    private static void firstAndNextBid() {
        LowWaterAuction x = Edges.opened();
        Check.due("the reserve", x.nod(0), 20);
        Check.due("bid and step", x.nod(2), 25);
        LowWaterAuction least = Edges.after(Auctions.of(M + B + B + EEL), 1);
        Check.due("the least bid", least.nod(1), 1);
        Check.due("the least step", least.nod(0), 2);
        LowWaterAuction most = Edges.after(Auctions.of("market 60 60 9 50 0;buyer 9999 0 1;buyer 9999 0 1;barrel 999 10;"), 1);
        Check.due("the greatest reserve", most.nod(0), 999);
        Check.due("the greatest step", most.nod(1), 1049);
    }

    private static void nodOfNobody() {
        for (int buyer : new int[] {-1, 3, 6, Edges.LEAST, Edges.MOST}) {
            Edges.refused("buyer " + buyer, Edges.INDEX, Edges::opened, x -> x.nod(buyer));
            Edges.refused("buyer " + buyer + " without a barrel", Edges.INDEX, x -> x.nod(buyer));
        }
    }

    private static void nodWhileClosed() {
        Edges.refused("at the horn", Edges.STATE, () -> Edges.after(new LowWaterAuction(), 12), x -> x.nod(2));
        Edges.refused("in the last closed minute", Edges.STATE, () -> Edges.after(new LowWaterAuction(), 19), x -> x.nod(2));
        LowWaterAuction x = Edges.after(new LowWaterAuction(), 20);
        Check.due("in the first open minute", x.nod(2), 10);
    }

    private static void nodWithoutBarrel() {
        Edges.refused("before the first minute", Edges.STATE, x -> x.nod(2));
        Edges.refused("after a sale", Edges.STATE, Edges::sold, x -> x.nod(2));
    }

    private static void nodOfLeader() {
        Edges.Making led = () -> {
            LowWaterAuction x = Edges.opened();
            x.nod(2);
            return x;
        };
        Edges.refused("the leader", Edges.STATE, led, x -> x.nod(2));
        Check.due("another buyer", led.make().nod(0), 25);
    }

    private static void nodOfSmallPurse() {
        String rest = "market 60 60 9 1 50;buyer 15 0 1;buyer 14 0 1;barrel 10 10;";
        Edges.refused("a coin too little", Edges.STATE, () -> Edges.after(Auctions.of(rest), 1), x -> x.nod(1));
        Check.due("just enough", Edges.after(Auctions.of(rest), 1).nod(0), 10);
        Edges.refused("an empty purse", Edges.STATE, () -> Edges.after(Auctions.of(M + "buyer 0 0 1;" + EEL), 1), x -> x.nod(0));
    }

    // ---- passMinutes

    private static void leastAndMostMinutes() {
        Check.due("1", Edges.after(new LowWaterAuction(), 1).minute(), 1);
        Check.due("200", Edges.after(new LowWaterAuction(), 200).minute(), 200);
        LowWaterAuction x = new LowWaterAuction();
        LowWaterAuction y = new LowWaterAuction();
        x.passMinutes(40);
        for (int i = 0; i < 40; i++) {
            y.passMinutes(1);
        }
        Check.due("forty minutes at once", Auctions.state(x), Auctions.state(y));
    }

    private static void noneSold() {
        Check.due("no barrel", Auctions.of(M + B).passMinutes(200), 0);
        Check.due("a minute of opening", new LowWaterAuction().passMinutes(1), 0);
        Check.due("a minute of a nod", Edges.opened().passMinutes(1), 0);
        Check.due("minutes of a closed market", Auctions.of("market 9 1 9 1 0;" + B + EEL).passMinutes(8), 0);
        Check.due("a barrel that is returned", Auctions.of(M + B + EEL).passMinutes(10), 0);
        Check.due("a barrel that is withdrawn", Auctions.of(M + B + EEL).passMinutes(200), 0);
        LowWaterAuction x = Edges.sold();
        Check.due("a barrel that was sold before", x.passMinutes(3), 0);
    }

    private static void allSold() {
        String keen = "market 60 60 1 1 0;buyer 9999 2 999;" + EEL.repeat(20);
        Check.due("a minute before the last sale", Auctions.of(keen).passMinutes(59), 19);
        Check.due("twenty barrels", Auctions.of(keen).passMinutes(60), 20);
        Check.due("twenty barrels and a long time", Auctions.of(keen).passMinutes(200), 20);
    }

    private static void soldByPatienceAndHorn() {
        LowWaterAuction x = Auctions.of("market 10 6 1 1 0;buyer 99 2 999;" + EEL + EEL);
        Check.due("a sale by patience", x.passMinutes(3), 1);
        Check.due("a sale by the horn", x.passMinutes(3), 1);
        Check.due("the horn is in minute 6", x.isOpen(), false);
        Check.due("no nod after that", x.nods(0), 2);
    }

    private static void wrongMinutes() {
        for (int minutes : new int[] {0, -1, 201, Edges.LEAST, Edges.MOST}) {
            Edges.refused(minutes + " minutes", Edges.ARGUMENT, Edges::opened, x -> x.passMinutes(minutes));
        }
    }

    // ---- addBarrel

    private static void addedToEmptyQueue() {
        LowWaterAuction x = Auctions.of(M + B);
        Check.due("index", x.addBarrel(7, 2, 30), 0);
        Check.due("queue", Auctions.queue(x), "[0]");
        Check.due("eels", Auctions.lengths(x, 0), "[30, 30]");
        Check.due("state", x.stateOf(0), 0);
    }

    private static void addedBehindReturned() {
        LowWaterAuction x = Auctions.of("market 60 60 1 1 0;" + B + EEL + EEL);
        x.passMinutes(2);
        Check.due("index", x.addBarrel(7, 2, 30), 2);
        Check.due("queue", Auctions.queue(x), "[1, 0, 2]");
        x.passMinutes(1);
        Check.due("index while a barrel is open", x.addBarrel(7, 2, 30), 3);
        Check.due("queue while a barrel is open", Auctions.queue(x), "[0, 2, 3]");
    }

    private static void addedInPlaceOfUndone() {
        LowWaterAuction x = Auctions.of("market 60 60 1 1 0;buyer 9999 2 999;");
        x.addBarrel(9, 9, 150);
        x.passMinutes(10);
        x.undo();
        x.undo();
        Check.due("index", x.addBarrel(7, 1, 30), 0);
        Check.due("eels", Auctions.lengths(x, 0), "[30]");
        Check.due("greatest", x.greatestLength(0), 30);
        Check.due("price", x.priceOf(0), NONE);
        Check.due("state", x.stateOf(0), 0);
    }

    private static void indexesOfBarrels() {
        Check.due("the first", Auctions.of(M + B).addBarrel(1, 1, 10), 0);
        Check.due("the fourth", Edges.sold().addBarrel(1, 1, 10), 3);
        Check.due("the twentieth", Auctions.of(M + B + EEL.repeat(19)).addBarrel(1, 1, 10), 19);
    }

    private static void wrongBarrels() {
        int[][] wrong = {{0, 1, 10}, {1000, 1, 10}, {1, 0, 10}, {1, 10, 10}, {1, 1, 9}, {1, 1, 151}, {-1, 1, 10}, {1, -1, 10},
            {1, 1, -1}, {Edges.LEAST, 1, 10}, {Edges.MOST, 1, 10}, {1, Edges.LEAST, 10}, {1, Edges.MOST, 10},
            {1, 1, Edges.LEAST}, {1, 1, Edges.MOST}};
        for (int[] w : wrong) {
            Edges.refused("barrel " + java.util.Arrays.toString(w), Edges.ARGUMENT, x -> x.addBarrel(w[0], w[1], w[2]));
        }
        int[][] good = {{1, 1, 10}, {999, 1, 10}, {1, 9, 10}, {1, 1, 150}, {999, 9, 150}};
        for (int[] g : good) {
            Check.due("barrel " + java.util.Arrays.toString(g), new LowWaterAuction().addBarrel(g[0], g[1], g[2]), 3);
        }
    }

    private static void addedBarrel20() {
        LowWaterAuction x = Auctions.of(M + B + EEL.repeat(19));
        Check.due("index", x.addBarrel(1, 1, 10), 19);
        Check.due("queue", x.queueLength(), 20);
        Check.due("the last of the queue", x.queuedBarrel(19), 19);
    }

    private static void addedBarrel21() {
        Edges.refused("all waiting", Edges.STATE, Edges::twenty, x -> x.addBarrel(1, 1, 10));
        LowWaterAuction x = Edges.twenty();
        x.withdraw(19);
        x.passMinutes(1);
        Check.dueThrow("one withdrawn and one open", Edges.STATE, () -> x.addBarrel(1, 1, 10));
        Check.due("barrels", x.barrelCount(), 20);
    }

    // ---- split

    private static void dueSplit(String barrel, int eels, String first, String last) {
        LowWaterAuction x = Auctions.of(M + B + barrel);
        Check.due("index", x.split(0, eels), 1);
        Check.due("the eels that stay", Auctions.lengths(x, 0), first);
        Check.due("the eels that go", Auctions.lengths(x, 1), last);
    }

    private static void splitOfReturned() {
        LowWaterAuction x = Auctions.of("market 60 60 1 1 0;" + B + "barrel 1 10 20;");
        x.passMinutes(1);
        Check.dueThrow("while it is open", Edges.STATE, () -> x.split(0, 1));
        x.passMinutes(1);
        Check.due("when it waits again", x.split(0, 1), 1);
        x.passMinutes(1);
        Check.due("it is opened before the new one", x.openBarrel(), 0);
    }

    private static void indexesOfSplits() {
        Check.due("the second", Auctions.of(M + B + "barrel 1 10 20;").split(0, 1), 1);
        Check.due("the twentieth", Auctions.of(M + B + EEL.repeat(18) + "barrel 1 10 20;").split(18, 1), 19);
    }

    private static void oneOfTwo() {
        dueSplit("barrel 1 10 20;", 1, "[10]", "[20]");
    }

    private static void eightOfNine() {
        dueSplit("barrel 1 11 12 13 14 15 16 17 18 19;", 8, "[11]", "[12, 13, 14, 15, 16, 17, 18, 19]");
    }

    private static void oneOfNine() {
        dueSplit("barrel 1 11 12 13 14 15 16 17 18 19;", 1, "[11, 12, 13, 14, 15, 16, 17, 18]", "[19]");
        LowWaterAuction x = Auctions.of(M + B + "barrel 1 90 80 150;");
        x.split(0, 1);
        Check.due("total of the rest", x.totalLength(0), 170);
        Check.due("greatest of the rest", x.greatestLength(0), 90);
        Check.due("middle of the rest", x.middleLength(0), 80);
    }

    private static void endOfTheQueue() {
        LowWaterAuction x = Auctions.of("market 60 60 1 1 0;" + B + EEL + "barrel 1 10 20 30;" + EEL);
        x.passMinutes(2);
        Check.due("queue before", Auctions.queue(x), "[1, 2, 0]");
        Check.due("index", x.split(1, 1), 3);
        Check.due("queue", Auctions.queue(x), "[1, 2, 0, 3]");
        Check.due("state", x.stateOf(3), 0);
        Check.due("a new barrel can be split", x.split(1, 1), 4);
        Check.due("queue after that", Auctions.queue(x), "[1, 2, 0, 3, 4]");
    }

    private static void dueReserves(int reserve, int eels, int split, int old, int added) {
        LowWaterAuction x = Auctions.of(M + B);
        x.addBarrel(reserve, eels, 10);
        x.split(0, split);
        String what = reserve + " * " + split + " / " + eels;
        Check.due(what + " of the old", x.reserve(0), old);
        Check.due(what + " of the new", x.reserve(1), added);
    }

    private static void quotients() {
        dueReserves(20, 3, 1, 14, 6);
        dueReserves(20, 3, 2, 7, 13);
        dueReserves(30, 3, 1, 20, 10);
        dueReserves(2, 2, 1, 1, 1);
        dueReserves(3, 2, 1, 2, 1);
        dueReserves(9, 9, 8, 1, 8);
    }

    private static void atLeastOne() {
        dueReserves(1, 2, 1, 1, 1);
        dueReserves(1, 9, 8, 1, 1);
        dueReserves(8, 9, 1, 8, 1);
        dueReserves(2, 3, 1, 2, 1);
        dueReserves(2, 9, 8, 1, 1);
    }

    private static void greatestReserve() {
        dueReserves(999, 9, 8, 111, 888);
        dueReserves(999, 9, 1, 888, 111);
        dueReserves(999, 2, 1, 500, 499);
    }

    private static void twoReturns() {
        LowWaterAuction x = Auctions.of("market 60 60 1 1 0;" + B + "barrel 1 10 20;");
        x.passMinutes(4);
        x.split(0, 1);
        Check.due("returns of the old", x.returns(0), 2);
        Check.due("returns of the new", x.returns(1), 0);
        x.passMinutes(2);
        Check.due("the third return of the old", x.stateOf(0), 3);
        x.passMinutes(2);
        Check.due("the first return of the new", x.stateOf(1), 0);
    }

    private static LowWaterAuction nineEels() {
        return Auctions.of(M + B + "barrel 1" + Edges.NINE + ";");
    }

    private static void leastAndMostEels() {
        for (int eels : new int[] {1, 8}) {
            LowWaterAuction x = nineEels();
            Check.due("split of " + eels, x.split(0, eels), 1);
            Check.due("eels of the new barrel", x.eels(1), eels);
            Check.due("eels of the old barrel", x.eels(0), 9 - eels);
        }
    }

    private static void wrongEels() {
        for (int eels : new int[] {0, -1, 9, Edges.LEAST, Edges.MOST}) {
            Edges.refused("split of " + eels, Edges.ARGUMENT, ChangesEdgesTest::nineEels, x -> x.split(0, eels));
        }
    }

    private static void splitOfNone() {
        for (int barrel : new int[] {-1, 3, 19, 20, Edges.LEAST, Edges.MOST}) {
            Edges.refused("split of barrel " + barrel, Edges.INDEX, x -> x.split(barrel, 1));
        }
        Check.dueThrow("no barrel at all", Edges.INDEX, () -> Auctions.of(M + B).split(0, 1));
    }

    private static void splitOfNotWaiting() {
        Edges.refused("open", Edges.STATE, Edges::opened, x -> x.split(0, 1));
        Edges.refused("sold", Edges.STATE, Edges::sold, x -> x.split(0, 1));
        Edges.refused("withdrawn", Edges.STATE, Edges::withdrawn, x -> x.split(0, 1));
    }

    private static void splitOfTooFew() {
        Edges.refused("three of three", Edges.STATE, x -> x.split(0, 3));
        Edges.refused("four of three", Edges.STATE, x -> x.split(0, 4));
        Edges.refused("eight of three", Edges.STATE, x -> x.split(0, 8));
        Edges.refused("one of one", Edges.STATE, x -> x.split(2, 1));
        Check.due("two of three", new LowWaterAuction().split(0, 2), 3);
        Edges.refused("eight of eight", Edges.STATE, () -> {
            LowWaterAuction x = new LowWaterAuction();
            x.addBarrel(1, 8, 10);
            return x;
        }, x -> x.split(3, 8));
    }

    private static void splitIntoBarrel20() {
        LowWaterAuction x = Auctions.of(M + B + "barrel 1 10 10 10;" + EEL.repeat(18));
        Check.due("index", x.split(0, 1), 19);
        Check.due("queue", x.queueLength(), 20);
        Check.due("the last of the queue", x.queuedBarrel(19), 19);
        Check.dueThrow("once more", Edges.STATE, () -> x.split(0, 1));
        Check.due("the eels stay", x.eels(0), 2);
    }

    private static void splitIntoBarrel21() {
        Edges.refused("twenty barrels", Edges.STATE, Edges::twenty, x -> x.split(0, 1));
    }
}
