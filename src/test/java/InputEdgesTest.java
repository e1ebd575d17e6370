/** The boundary cases of the constants and of promises 1 to 5: each sentence has tests of its own. */
final class InputEdgesTest {
    private static final int NONE = Edges.NONE;
    private static final String SMALL_SETUP = Edges.MARKET + Edges.BUYER;

    private InputEdgesTest() {
    }

    public static void main(String[] args) {
        constants();
        newObject();
        append();
        truncate();
        errors();
        Check.finish();
    }

    private static void constants() {
        Edges.holds("Terms", "`NONE = -1`: The result of methods that have nothing to return.",
            () -> Check.due("NONE", LowWaterAuction.NONE, -1));
        Edges.holds("Terms", "`SYNTAX = 1`: Error code: a token that is not allowed at its place.",
            () -> Check.due("SYNTAX", LowWaterAuction.SYNTAX, 1));
        Edges.holds("Terms", "`RANGE = 2`: Error code: a number out of range.",
            () -> Check.due("RANGE", LowWaterAuction.RANGE, 2));
        Edges.holds("Terms", "`LIMIT = 3`: Error code: too many buyers, barrels, lengths or commands.",
            () -> Check.due("LIMIT", LowWaterAuction.LIMIT, 3));
        Edges.holds("What it is", "An object is used for at most 512 calls after it has been made; what later calls answer is"
            + " free.", InputEdgesTest::call512);
    }

    private static void newObject() {
        Edges.holds("1", "Creates an auction as by the setup \"market 20 12 2 5 10; buyer 200 1 50; buyer 90 2 60; buyer 300 0"
            + " 1; barrel 20 40 55 30; barrel 50 100 90; barrel 10 15;\", with an empty input buffer, an empty output text and"
            + " no snapshots.", InputEdgesTest::asByTheSetup, InputEdgesTest::emptyBuffer, InputEdgesTest::emptyOutput,
            InputEdgesTest::noSnapshots, InputEdgesTest::sharesNothing);
        Edges.holds("1", "No change can be undone.", InputEdgesTest::noChange);
    }

    private static void append() {
        Edges.holds("2", "Appends twenty bytes to the input buffer: the four bytes of each argument, the most significant byte"
            + " first.", InputEdgesTest::eachByte, InputEdgesTest::leastAndGreatestBytes, InputEdgesTest::behindTheOthers);
        Edges.holds("2", "Returns the new length of the buffer.", InputEdgesTest::newLengths);
        Edges.holds("2", "Throws `IllegalStateException` if the new length would exceed 500", InputEdgesTest::fullBuffer,
            InputEdgesTest::nearlyFullBuffer, InputEdgesTest::refusedBytes);
    }

    private static void truncate() {
        Edges.holds("3", "Shortens the input buffer to its first bytes.", InputEdgesTest::firstBytes,
            InputEdgesTest::cutBytesStayAway, InputEdgesTest::truncateChangesNothingElse);
        Edges.holds("3", "`length`: the new length, 0 to the current length", InputEdgesTest::lengthsOfEmptyBuffer,
            InputEdgesTest::lengthsOfFullBuffer);
        Edges.holds("3", "Returns the new length.", InputEdgesTest::truncatedLengths);
        Edges.holds("3", "Throws `IllegalArgumentException` if length is out of range", InputEdgesTest::wrongLengths);
    }

    private static void errors() {
        Edges.holds("4", "Returns SYNTAX, RANGE or LIMIT; 0 if that text had no error or there was no such call.",
            InputEdgesTest::noCall, InputEdgesTest::eachCode, InputEdgesTest::noError);
        Edges.holds("4", "Returns the error code of the latest call of loadSetup or runScript.", InputEdgesTest::latestCall,
            InputEdgesTest::otherCalls);
        Edges.holds("5", "Returns the position; NONE if that text had no error or there was no such call.",
            InputEdgesTest::noCall, InputEdgesTest::positions, InputEdgesTest::noError);
        Edges.holds("5", "Returns the error position of the latest call of loadSetup or runScript.", InputEdgesTest::latestCall,
            InputEdgesTest::otherCalls);
    }

    private static void call512() {
        LowWaterAuction x = new LowWaterAuction();
        x.passMinutes(2);
        for (int call = 2; call < 512; call++) {
            Check.due("call " + call, x.bestStep(500), 1);
        }
        Check.due("call 512", x.bid(), 20);
    }

    // ---- a new object

    private static void asByTheSetup() {
        LowWaterAuction x = new LowWaterAuction();
        LowWaterAuction y = Auctions.of(Edges.FIRST_SETUP);
        Check.due("state", Auctions.state(x), Auctions.state(y));
        x.passMinutes(11);
        y.passMinutes(11);
        Check.due("state after two sales and a return by patience", Auctions.state(x), Auctions.state(y));
        x.passMinutes(150);
        y.passMinutes(150);
        Check.due("state in the end", Auctions.state(x), Auctions.state(y));
    }

    private static void emptyBuffer() {
        Edges.dueBuffered("a new object", new LowWaterAuction(), 0);
        Check.due("first append", new LowWaterAuction().append(0, 0, 0, 0, 0), 20);
        Check.due("an empty script", new LowWaterAuction().runScript(), 0);
    }

    private static void emptyOutput() {
        Check.due("byte 0", new LowWaterAuction().outputByte(0), NONE);
    }

    private static void noSnapshots() {
        Check.dueThrow("slot 0", Edges.ELEMENT, () -> new LowWaterAuction().restoreSnapshot(0));
        Check.dueThrow("slot 1", Edges.ELEMENT, () -> new LowWaterAuction().restoreSnapshot(1));
    }

    private static void sharesNothing() {
        LowWaterAuction x = new LowWaterAuction();
        x.append(1, 2, 3, 4, 5);
        x.saveSnapshot(0);
        x.writeQueue();
        x.passMinutes(30);
        LowWaterAuction y = new LowWaterAuction();
        Check.due("minute", y.minute(), 0);
        Check.due("barrel 0", y.stateOf(0), 0);
        Check.due("output", y.outputByte(0), NONE);
        Check.dueThrow("snapshot", Edges.ELEMENT, () -> y.restoreSnapshot(0));
        Edges.dueBuffered("another object", y, 0);
    }

    private static void noChange() {
        Check.dueThrow("undo", Edges.ELEMENT, () -> new LowWaterAuction().undo());
    }

    // ---- append and truncate

    /** A byte that belongs to no token stands at each of the twenty places; the error position tells where it is. */
    private static void eachByte() {
        for (int place = 0; place < 20; place++) {
            int[] fours = {0x20202020, 0x20202020, 0x20202020, 0x20202020, 0x20202020};
            int shift = 24 - 8 * (place % 4);
            fours[place / 4] ^= (0x20 ^ 0x23) << shift;
            LowWaterAuction x = new LowWaterAuction();
            x.append(fours[0], fours[1], fours[2], fours[3], fours[4]);
            Check.dueThrow("a wrong byte at " + place, Edges.ARGUMENT, x::runScript);
            Check.due("its position", x.errorPosition(), place);
        }
    }

    private static void leastAndGreatestBytes() {
        for (int four : new int[] {0, -1, Edges.LEAST, Edges.MOST, 0xA0202020, 0xE1E1E1E1, 0xB0B0B0B0}) {
            LowWaterAuction x = new LowWaterAuction();
            Check.due("append " + four, x.append(four, four, four, four, four), 20);
            Check.dueThrow("no token", Edges.ARGUMENT, x::runScript);
            Check.due("its position", x.errorPosition(), 0);
        }
    }

    private static void behindTheOthers() {
        LowWaterAuction x = new LowWaterAuction();
        Auctions.feed(x, "wait");
        Check.due("behind four bytes", x.append(0x20323030, 0x3b202020, 0x20202020, 0x20202020, 0x20202020), 24);
        Check.due("the text of both", x.runScript(), 1);
        Check.due("minutes of both", x.minute(), 200);
    }

    private static void newLengths() {
        LowWaterAuction x = new LowWaterAuction();
        Check.due("from 0", x.append(0, 0, 0, 0, 0), 20);
        x.truncate(1);
        Check.due("from 1", x.append(0, 0, 0, 0, 0), 21);
        Auctions.feed(x, " ".repeat(479));
        Check.due("from 479", x.append(0, 0, 0, 0, 0), 499);
        x.truncate(480);
        Check.due("from 480", x.append(0, 0, 0, 0, 0), 500);
    }

    private static LowWaterAuction buffer(int length) {
        LowWaterAuction x = new LowWaterAuction();
        Auctions.feed(x, " ".repeat(length));
        return x;
    }

    private static void fullBuffer() {
        Edges.refused("append to 500 bytes", Edges.STATE, () -> buffer(500), x -> x.append(1, 2, 3, 4, 5));
        LowWaterAuction x = new LowWaterAuction();
        for (int i = 1; i <= 25; i++) {
            Check.due("append " + i, x.append(0x20202020, 0x20202020, 0x20202020, 0x20202020, 0x20202020), 20 * i);
        }
        Check.dueThrow("append 26", Edges.STATE, () -> x.append(0, 0, 0, 0, 0));
        x.truncate(480);
        Check.due("after a truncate", x.append(0, 0, 0, 0, 0), 500);
        Check.dueThrow("full again", Edges.STATE, () -> x.append(0, 0, 0, 0, 0));
    }

    private static void nearlyFullBuffer() {
        Edges.refused("append to 499 bytes", Edges.STATE, () -> buffer(499), x -> x.append(1, 2, 3, 4, 5));
        Edges.refused("append to 481 bytes", Edges.STATE, () -> buffer(481), x -> x.append(1, 2, 3, 4, 5));
        Check.due("append to 480 bytes", buffer(480).append(1, 2, 3, 4, 5), 500);
    }

    private static void refusedBytes() {
        LowWaterAuction x = new LowWaterAuction();
        Auctions.feed(x, "wait 3;" + " ".repeat(474));
        Check.dueThrow("append to 481 bytes", Edges.STATE, () -> x.append(-1, -1, -1, -1, -1));
        Edges.dueBuffered("after the refused bytes", x, 481);
        Check.due("no byte of them came in", x.runScript(), 1);
    }

    private static void firstBytes() {
        LowWaterAuction x = new LowWaterAuction();
        Auctions.feed(x, "wait 1;wait 2;");
        Check.due("to the length", x.truncate(14), 14);
        Check.due("to one byte less", x.truncate(13), 13);
        Check.due("to half of it", x.truncate(7), 7);
        Check.due("what is left", x.runScript(), 1);
        Check.due("minutes", x.minute(), 1);
    }

    private static void cutBytesStayAway() {
        LowWaterAuction x = new LowWaterAuction();
        Auctions.feed(x, "wait 20;");
        x.truncate(6);
        x.append(0x3b202020, 0x20202020, 0x20202020, 0x20202020, 0x20202020);
        Check.due("script", x.runScript(), 1);
        Check.due("a number of one digit", x.minute(), 2);
        Auctions.feed(x, "wait 1;");
        x.truncate(0);
        Check.due("an empty script", x.runScript(), 0);
        Auctions.feed(x, "wait 20;");
        x.truncate(6);
        Check.dueThrow("no semicolon", Edges.ARGUMENT, x::runScript);
        Check.due("position at the end", x.errorPosition(), 6);
    }

    private static void truncatedLengths() {
        for (int length : new int[] {500, 499, 1, 0}) {
            Check.due("of 500", buffer(500).truncate(length), length);
        }
    }

    private static void truncateChangesNothingElse() {
        LowWaterAuction x = buffer(20);
        String before = Edges.seen(x);
        x.truncate(0);
        Check.due("all else", Edges.seen(x), before);
        Check.dueThrow("truncate is no change", Edges.ELEMENT, x::undo);
    }

    private static void lengthsOfEmptyBuffer() {
        LowWaterAuction x = new LowWaterAuction();
        Check.due("0 of 0", x.truncate(0), 0);
        Check.dueThrow("1 of 0", Edges.ARGUMENT, () -> x.truncate(1));
    }

    private static void lengthsOfFullBuffer() {
        LowWaterAuction x = buffer(500);
        Check.dueThrow("501 of 500", Edges.ARGUMENT, () -> x.truncate(501));
        Check.due("500 of 500", x.truncate(500), 500);
        Check.due("499 of 500", x.truncate(499), 499);
        Check.dueThrow("500 of 499", Edges.ARGUMENT, () -> x.truncate(500));
        Check.due("0 of 499", x.truncate(0), 0);
    }

    private static void wrongLengths() {
        for (int length : new int[] {-1, 21, 500, 501, Edges.LEAST, Edges.MOST}) {
            Edges.refused("truncate to " + length, Edges.ARGUMENT, () -> buffer(20), x -> x.truncate(length));
        }
        LowWaterAuction x = buffer(20);
        Check.dueThrow("truncate to 21", Edges.ARGUMENT, () -> x.truncate(21));
        Edges.dueBuffered("after the refused call", x, 20);
    }

    // ---- the reported error

    private static void dueError(String what, LowWaterAuction x, int code, int position) {
        Check.due(what + ": code", x.errorCode(), code);
        Check.due(what + ": position", x.errorPosition(), position);
    }

    private static LowWaterAuction wrongScript(String text) {
        LowWaterAuction x = new LowWaterAuction();
        Auctions.feed(x, text);
        Check.dueThrow(text, Edges.ARGUMENT, x::runScript);
        return x;
    }

    private static void noCall() {
        dueError("a new object", new LowWaterAuction(), 0, NONE);
        LowWaterAuction x = new LowWaterAuction();
        Auctions.feed(x, "#");
        dueError("a text that is not parsed yet", x, 0, NONE);
    }

    private static void eachCode() {
        dueError("a wrong token", wrongScript("waits"), Edges.SYNTAX, 0);
        dueError("a wrong number", wrongScript("wait 201"), Edges.RANGE, 5);
        dueError("a tenth length", wrongScript("barrel 1" + Edges.NINE + " 10"), Edges.LIMIT, 36);
    }

    private static void noError() {
        LowWaterAuction x = wrongScript("wait 0;");
        Check.due("a good script", Auctions.run(x, "wait 1;"), 1);
        dueError("after a good script", x, 0, NONE);
        LowWaterAuction y = wrongScript("wait 0;");
        Check.due("an empty script", y.runScript(), 0);
        dueError("after an empty script", y, 0, NONE);
        LowWaterAuction z = wrongScript("wait 0;");
        Check.due("a script that cannot be executed", Auctions.run(z, "nod 0;"), 0);
        dueError("after a script that cannot be executed", z, 0, NONE);
        LowWaterAuction u = wrongScript("wait 0;");
        Auctions.feed(u, SMALL_SETUP);
        Check.due("a good setup", u.loadSetup(), 0);
        dueError("after a good setup", u, 0, NONE);
    }

    private static void positions() {
        dueError("the first byte", wrongScript("#" + " ".repeat(499)), Edges.SYNTAX, 0);
        dueError("the last byte", wrongScript(" ".repeat(499) + "#"), Edges.SYNTAX, 499);
        dueError("behind the last byte", wrongScript(" ".repeat(496) + "wait"), Edges.SYNTAX, 500);
        LowWaterAuction x = new LowWaterAuction();
        Check.dueThrow("an empty setup", Edges.ARGUMENT, x::loadSetup);
        dueError("an empty setup", x, Edges.SYNTAX, 0);
    }

    private static void latestCall() {
        LowWaterAuction x = wrongScript("wait 0;");
        Auctions.feed(x, "wait 1;wait x;");
        Check.dueThrow("another error", Edges.ARGUMENT, x::runScript);
        dueError("the later one of two scripts", x, Edges.SYNTAX, 12);
        Auctions.feed(x, "market 4");
        Check.dueThrow("an error of a setup", Edges.ARGUMENT, x::loadSetup);
        dueError("the setup", x, Edges.RANGE, 7);
        Auctions.feed(x, "market 4");
        Check.dueThrow("the same text as a script", Edges.ARGUMENT, x::runScript);
        dueError("the script", x, Edges.SYNTAX, 0);
    }

    private static void otherCalls() {
        LowWaterAuction x = new LowWaterAuction();
        x.saveSnapshot(0);
        x.setStep(6);
        Auctions.feed(x, "wait 0;");
        Check.dueThrow("a wrong script", Edges.ARGUMENT, x::runScript);
        x.undo();
        dueError("after undo", x, Edges.RANGE, 5);
        x.restoreSnapshot(0);
        dueError("after restoreSnapshot", x, Edges.RANGE, 5);
        x.append(0, 0, 0, 0, 0);
        dueError("after append", x, Edges.RANGE, 5);
        x.truncate(0);
        dueError("after truncate", x, Edges.RANGE, 5);
        Check.dueThrow("a refused call", Edges.ARGUMENT, () -> x.passMinutes(0));
        dueError("after a refused call", x, Edges.RANGE, 5);
    }
}
