import java.util.ArrayList;
import java.util.Arrays;
import java.util.List;

/**
 * What the tests do with auctions again and again. An object is promised for 512 calls only: state takes up to some
 * 370 of them, and some 75 of a new object.
 */
final class Auctions {
    private Auctions() {
    }

    static LowWaterAuction of(String setup) {
        LowWaterAuction auction = new LowWaterAuction();
        feed(auction, setup);
        auction.loadSetup();
        return auction;
    }

    /** Puts a text into the input buffer, in place of what it holds. */
    static void feed(LowWaterAuction auction, String text) {
        auction.truncate(0);
        for (int from = 0; from < text.length(); from += 20) {
            auction.append(four(text, from), four(text, from + 4), four(text, from + 8),
                four(text, from + 12), four(text, from + 16));
        }
        auction.truncate(text.length());
    }

    static int run(LowWaterAuction auction, String script) {
        feed(auction, script);
        return auction.runScript();
    }

    static String output(LowWaterAuction auction) {
        StringBuilder text = new StringBuilder();
        int index = 0;
        for (int b = auction.outputByte(0); b != LowWaterAuction.NONE; b = auction.outputByte(index)) {
            text.append((char) b);
            index++;
        }
        return text.toString();
    }

    static String queue(LowWaterAuction auction) {
        List<Integer> queue = new ArrayList<>();
        int length = auction.queueLength();
        for (int i = 0; i < length; i++) {
            queue.add(auction.queuedBarrel(i));
        }
        return queue.toString();
    }

    static String lengths(LowWaterAuction auction, int barrel) {
        List<Integer> lengths = new ArrayList<>();
        int eels = auction.eels(barrel);
        for (int i = 0; i < eels; i++) {
            lengths.add(auction.length(barrel, i));
        }
        return lengths.toString();
    }

    /** Every answer that shows the state, but for the questions: two equal texts are two equal states. */
    static String state(LowWaterAuction auction) {
        StringBuilder text = new StringBuilder();
        text.append("minute ").append(auction.minute()).append(" open ").append(auction.isOpen())
            .append(" horn ").append(auction.minutesToHorn()).append(" step ").append(auction.step())
            .append(" fee ").append(auction.costOf(100))
            .append(" sellers ").append(auction.sellerCoins()).append(" house ").append(auction.houseCoins())
            .append(" error ").append(auction.coinError())
            .append(" barrel ").append(auction.openBarrel()).append(" bid ").append(auction.bid())
            .append(" leader ").append(auction.leader()).append(" next ").append(auction.nextBid())
            .append(" quiet ").append(auction.quiet()).append(" queue ").append(queue(auction));
        int barrels = auction.barrelCount();
        for (int i = 0; i < barrels; i++) {
            text.append("\nbarrel ").append(lengths(auction, i)).append(' ').append(auction.reserve(i))
                .append(' ').append(auction.stateOf(i)).append(' ').append(auction.returns(i))
                .append(' ').append(auction.buyerOf(i)).append(' ').append(auction.priceOf(i));
        }
        int buyers = auction.buyerCount();
        for (int i = 0; i < buyers; i++) {
            text.append("\nbuyer ").append(auction.purse(i)).append(' ').append(auction.style(i))
                .append(' ').append(auction.factor(i)).append(' ').append(auction.bought(i))
                .append(' ').append(auction.nods(i));
        }
        return text.toString();
    }

    /** What of the state most changes show, by a few calls. */
    static String outline(LowWaterAuction auction) {
        int[] outline = {auction.minute(), auction.step(), auction.sellerCoins(), auction.openBarrel(), auction.bid(),
            auction.leader(), auction.quiet(), auction.queueLength(), auction.barrelCount(), auction.coinError()};
        return Arrays.toString(outline);
    }

    private static int four(String text, int from) {
        int four = 0;
        for (int i = from; i < from + 4; i++) {
            four = four << 8 | (i < text.length() ? text.charAt(i) & 255 : ' ');
        }
        return four;
    }
}
