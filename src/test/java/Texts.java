import java.util.NoSuchElementException;

/** Texts with an error; a bar stands before the token at which the parser must stop. */
final class Texts {
    static final int SYNTAX = LowWaterAuction.SYNTAX;
    static final int RANGE = LowWaterAuction.RANGE;
    static final int LIMIT = LowWaterAuction.LIMIT;

    private Texts() {
    }

    static void setupError(LowWaterAuction auction, int code, String marked) {
        error("6 setup ", auction, code, marked, auction::loadSetup);
    }

    static void scriptError(LowWaterAuction auction, int code, String marked) {
        error("7 script ", auction, code, marked, auction::runScript);
    }

    /** Each of the setups must be refused by a new object. */
    static void badSetups(int code, String... marked) {
        for (String text : marked) {
            LowWaterAuction x = new LowWaterAuction();
            setupError(x, code, text);
            Check.dueThrow("6 setup " + text + " is no change", NoSuchElementException.class, x::undo);
        }
    }

    /** Each of the scripts must be refused by a new object. */
    static void badScripts(int code, String... marked) {
        for (String text : marked) {
            LowWaterAuction x = new LowWaterAuction();
            scriptError(x, code, text);
            Check.dueThrow("7 script " + text + " is no change", NoSuchElementException.class, x::undo);
        }
    }

    /** Each of the setups must be taken by a new object. */
    static void goodSetups(String... setups) {
        for (String setup : setups) {
            LowWaterAuction x = new LowWaterAuction();
            Auctions.feed(x, setup);
            try {
                x.loadSetup();
            } catch (IllegalArgumentException refused) {
                Check.due("setup " + setup, "error at " + x.errorPosition(), "no error");
            }
            Check.due("setup " + setup + " errorCode", x.errorCode(), 0);
        }
    }

    /** Each of the scripts must be taken by a new object, and so many commands of it be executed. */
    static void goodScripts(int executed, String... scripts) {
        for (String script : scripts) {
            LowWaterAuction x = new LowWaterAuction();
            Auctions.feed(x, script);
            try {
                Check.due("script " + script, x.runScript(), executed);
            } catch (IllegalArgumentException refused) {
                Check.due("script " + script, "error at " + x.errorPosition(), "no error");
            }
            Check.due("script " + script + " errorCode", x.errorCode(), 0);
        }
    }

    static String times(int count, String text) {
        return text.repeat(count);
    }

    private static void error(String what, LowWaterAuction auction, int code, String marked, Check.Call parse) {
        int position = marked.indexOf('|');
        String text = marked.substring(0, position) + marked.substring(position + 1);
        String before = Auctions.state(auction);
        Auctions.feed(auction, text);
        Check.dueThrow(what + marked, IllegalArgumentException.class, parse);
        Check.due(what + marked + " errorCode", auction.errorCode(), code);
        Check.due(what + marked + " errorPosition", auction.errorPosition(), position);
        Check.due(what + marked + " leaves the state", Auctions.state(auction), before);
        Check.dueThrow(what + marked + " empties the buffer", IllegalArgumentException.class,
            () -> auction.truncate(1));
    }
}
