import java.util.NoSuchElementException;

/** What the tests of boundary cases share. Each of them belongs to one sentence of ../shared/DOC.md. */
final class Edges {
    static final Class<? extends RuntimeException> INDEX = IndexOutOfBoundsException.class;
    static final Class<? extends RuntimeException> ARGUMENT = IllegalArgumentException.class;
    static final Class<? extends RuntimeException> STATE = IllegalStateException.class;
    static final Class<? extends RuntimeException> ELEMENT = NoSuchElementException.class;

    static final int NONE = LowWaterAuction.NONE;
    static final int SYNTAX = LowWaterAuction.SYNTAX;
    static final int RANGE = LowWaterAuction.RANGE;
    static final int LIMIT = LowWaterAuction.LIMIT;
    static final int LEAST = Integer.MIN_VALUE;
    static final int MOST = Integer.MAX_VALUE;

    /** A market that never closes, and a buyer who never nods by himself. */
    static final String MARKET = "market 60 60 9 1 0;";
    static final String BUYER = "buyer 100 0 1;";
    static final String EEL = "barrel 1 10;";
    static final String NINE = " 10 10 10 10 10 10 10 10 10";
    static final String FIRST_SETUP = "market 20 12 2 5 10; buyer 200 1 50; buyer 90 2 60; buyer 300 0 1;"
        + " barrel 20 40 55 30; barrel 50 100 90; barrel 10 15;";

    interface Making {
        LowWaterAuction make();
    }

    interface Call {
        Object on(LowWaterAuction auction);
    }

    /** A call about one barrel, or about one buyer. */
    interface Asking {
        Object of(LowWaterAuction auction, int index);
    }

    private Edges() {
    }

    /** The tests of one sentence; where is its heading, or the number of its promise. */
    static void holds(String where, String sentence, Runnable... tests) {
        Check.about(where + " \"" + sentence + "\": ");
        for (Runnable test : tests) {
            try {
                test.run();
            } catch (RuntimeException thrown) {
                Check.due("a call", thrown, "no exception");
            }
        }
    }

    static void refused(String what, Class<? extends RuntimeException> want, Call call) {
        refused(what, want, LowWaterAuction::new, call);
    }

    /** The call must throw on a new object, and leave what can be seen of it and what can be undone. */
    static void refused(String what, Class<? extends RuntimeException> want, Making making, Call call) {
        LowWaterAuction x = making.make();
        String before = seen(x);
        Check.dueThrow(what, want, () -> call.on(x));
        Check.due(what + " leaves all", seen(x), before);
        LowWaterAuction twin = making.make();
        Check.due(what + " is no change", undone(x), undone(twin));
        Check.due(what + " leaves the buffer", nextLength(x), nextLength(twin));
    }

    /** The call is taken back by one undo, and nothing is lost by it. */
    static void undoable(String what, Making making, Call call) {
        LowWaterAuction x = making.make();
        String before = Auctions.state(x);
        x.setStep(x.step());
        call.on(x);
        Check.due(what + " can be undone", x.undo(), 1 + changes(making.make()));
        Check.due(what + " is undone", Auctions.state(x), before);
    }

    static String seen(LowWaterAuction x) {
        return Auctions.state(x) + "\noutput " + Auctions.output(x) + "\nerror " + x.errorCode() + " at " + x.errorPosition();
    }

    /** Undoes the latest change, and tells what came of it. */
    static String undone(LowWaterAuction x) {
        try {
            return x.undo() + " changes left\n" + Auctions.state(x);
        } catch (NoSuchElementException none) {
            return "no change";
        }
    }

    /** The number of changes that can be undone; it undoes one of them. */
    static int changes(LowWaterAuction x) {
        try {
            return x.undo() + 1;
        } catch (NoSuchElementException none) {
            return 0;
        }
    }

    /** The length of the input buffer after twenty bytes more, or that they have no room. */
    static String nextLength(LowWaterAuction x) {
        try {
            return String.valueOf(x.append(0, 0, 0, 0, 0));
        } catch (IllegalStateException full) {
            return "no room";
        }
    }

    /** The input buffer must have this length, and keeps it. */
    static void dueBuffered(String what, LowWaterAuction x, int length) {
        // In this order, as truncate would cut a longer buffer to the length that is due.
        Check.dueThrow(what + ": no byte more in the buffer", ARGUMENT, () -> x.truncate(length + 1));
        Check.dueThrow(what + ": no twenty bytes more in the buffer", ARGUMENT, () -> x.truncate(length + 20));
        Check.due(what + ": length of the buffer", x.truncate(length), length);
    }

    static LowWaterAuction after(LowWaterAuction x, int minutes) {
        x.passMinutes(minutes);
        return x;
    }

    /** A new object in which barrel 0 is open and has neither bid nor leader. */
    static LowWaterAuction opened() {
        return after(new LowWaterAuction(), 1);
    }

    /** A new object in which barrel 0 is sold. */
    static LowWaterAuction sold() {
        return after(new LowWaterAuction(), 4);
    }

    /** A new object in which barrel 0 is withdrawn. */
    static LowWaterAuction withdrawn() {
        LowWaterAuction x = new LowWaterAuction();
        x.withdraw(0);
        return x;
    }

    /** Twenty barrels, all of them waiting; the first has three eels, the others have one. */
    static LowWaterAuction twenty() {
        return Auctions.of(MARKET + BUYER + "barrel 1 10 10 10;" + EEL.repeat(19));
    }
}
