/** Promises 2 to 5: append, truncate, errorCode, errorPosition. */
final class InputTest {
    private InputTest() {
    }

    public static void main(String[] args) {
        append();
        truncate();
        errors();
        Check.finish();
    }

    private static void append() {
        LowWaterAuction x = new LowWaterAuction();
        // "wait 1;wait 2;wait 3" in five times four bytes
        Check.due("2 append", x.append(0x77616974, 0x20313b77, 0x61697420, 0x323b7761, 0x69742033), 20);
        Check.due("2 append again", x.append(0x3b202020, 0x20202020, 0x20202020, 0x20202020, 0x20202020), 40);
        Check.due("2 the bytes in their order", x.runScript(), 3);
        Check.due("2 minutes of all bytes", x.minute(), 6);

        for (int i = 1; i <= 25; i++) {
            Check.due("2 append up to 500", x.append(0, 0, 0, 0, 0), 20 * i);
        }
        Check.dueThrow("2 append beyond 500", IllegalStateException.class, () -> x.append(0, 0, 0, 0, 0));
        Check.due("2 the length stays", x.truncate(500), 500);
        x.truncate(481);
        Check.dueThrow("2 append 20 to 481", IllegalStateException.class, () -> x.append(1, 2, 3, 4, 5));
        x.truncate(480);
        Check.due("2 append 20 to 480", x.append(1, 2, 3, 4, 5), 500);

        LowWaterAuction y = new LowWaterAuction();
        y.append(0xffffffff, -1, -1, -1, Integer.MIN_VALUE);
        Check.dueThrow("2 bytes above 127 belong to no token", IllegalArgumentException.class, y::runScript);
        Check.due("2 code of such a byte", y.errorCode(), LowWaterAuction.SYNTAX);
        Check.due("2 place of such a byte", y.errorPosition(), 0);
        Check.dueThrow("2 append is no change", java.util.NoSuchElementException.class, y::undo);
    }

    private static void truncate() {
        LowWaterAuction x = new LowWaterAuction();
        Check.due("3 truncate empty to 0", x.truncate(0), 0);
        Check.dueThrow("3 truncate beyond the length", IllegalArgumentException.class, () -> x.truncate(1));
        x.append(0x77616974, 0x20313b77, 0x61697420, 0x323b7761, 0x69742033);
        Check.dueThrow("3 truncate to 21 of 20", IllegalArgumentException.class, () -> x.truncate(21));
        Check.dueThrow("3 truncate to -1", IllegalArgumentException.class, () -> x.truncate(-1));
        Check.due("3 truncate to the length", x.truncate(20), 20);
        Check.due("3 truncate", x.truncate(7), 7);
        Check.due("3 the first bytes stay", x.runScript(), 1);
        Check.due("3 the others are gone", x.minute(), 1);
        Check.dueThrow("3 the buffer is empty after a script", IllegalArgumentException.class, () -> x.truncate(1));
    }

    private static void errors() {
        LowWaterAuction x = new LowWaterAuction();
        Check.due("4 no call yet", x.errorCode(), 0);
        Check.due("5 no call yet", x.errorPosition(), LowWaterAuction.NONE);
        Auctions.feed(x, "wait 201;");
        Check.due("4 not parsed yet", x.errorCode(), 0);
        Check.dueThrow("7 a minute too many", IllegalArgumentException.class, x::runScript);
        Check.due("4 after an error", x.errorCode(), LowWaterAuction.RANGE);
        Check.due("5 after an error", x.errorPosition(), 5);
        x.setStep(7);
        x.undo();
        Check.due("4 after an undo", x.errorCode(), LowWaterAuction.RANGE);
        Check.due("5 after an undo", x.errorPosition(), 5);
        Auctions.run(x, "wait 200;");
        Check.due("4 after a good script", x.errorCode(), 0);
        Check.due("5 after a good script", x.errorPosition(), LowWaterAuction.NONE);
        Check.dueThrow("6 an empty setup", IllegalArgumentException.class, x::loadSetup);
        Check.due("4 after an empty setup", x.errorCode(), LowWaterAuction.SYNTAX);
        Check.due("5 after an empty setup", x.errorPosition(), 0);
        Auctions.feed(x, "market 5 5 1 1 0; buyer 0 0 1;");
        x.loadSetup();
        Check.due("4 after a good setup", x.errorCode(), 0);
        Check.due("5 after a good setup", x.errorPosition(), LowWaterAuction.NONE);
        Check.due("4 SYNTAX", LowWaterAuction.SYNTAX, 1);
        Check.due("4 RANGE", LowWaterAuction.RANGE, 2);
        Check.due("4 LIMIT", LowWaterAuction.LIMIT, 3);
        Check.due("5 NONE", LowWaterAuction.NONE, -1);
    }
}
