import java.math.BigInteger;
import java.nio.charset.StandardCharsets;
import java.util.ArrayDeque;
import java.util.ArrayList;
import java.util.Arrays;
import java.util.Collections;
import java.util.Deque;
import java.util.List;
import java.util.NoSuchElementException;
import java.util.regex.Matcher;
import java.util.regex.Pattern;

/**
 * The auction of ../shared/DOC.md once more, written straight after its words and as unlike LowWaterAuction as they allow:
 * nothing is kept that can be worked out, every look ahead walks through all minutes, texts are cut into tokens first.
 * ModelTest compares the two.
 */
final class Model {
    private static final String FIRST = "market 20 12 2 5 10; buyer 200 1 50; buyer 90 2 60; buyer 300 0 1; barrel 20 40 55 30;"
        + " barrel 50 100 90; barrel 10 15;";
    private static final Pattern TOKEN = Pattern.compile("[a-z]+|[0-9]+|;|[^ ]", Pattern.DOTALL);
    private static final List<String> COMMANDS = List.of("nod", "wait", "split", "pay", "withdraw", "barrel");

    /** A command that cannot be executed, or a text with an error. */
    private static final class Refusal extends RuntimeException {
        private static final long serialVersionUID = 1L;
        final int code;
        final int position;

        Refusal(int code, int position) {
            this.code = code;
            this.position = position;
        }
    }

    private static final class Eels {
        List<Integer> lengths = new ArrayList<>();
        int reserve;
        int returns;
        int state;
        int buyer = -1;
        int price = -1;

        Eels(int reserve, List<Integer> lengths) {
            this.reserve = reserve;
            this.lengths.addAll(lengths);
        }

        Eels copy() {
            Eels copy = new Eels(reserve, lengths);
            copy.returns = returns;
            copy.state = state;
            copy.buyer = buyer;
            copy.price = price;
            return copy;
        }

        int sum() {
            return lengths.stream().mapToInt(Integer::intValue).sum();
        }
    }

    private static final class State {
        int period;
        int low;
        int patience;
        int step;
        int fee;
        int minute;
        int sellers;
        int house;
        int open = -1;
        int bid = -1;
        int leader = -1;
        int quiet = -1;
        List<Eels> barrels = new ArrayList<>();
        List<Integer> queue = new ArrayList<>();
        /** Purse, style, factor, bought and nods of each buyer. */
        List<int[]> buyers = new ArrayList<>();

        State copy() {
            State copy = new State();
            copy.period = period;
            copy.low = low;
            copy.patience = patience;
            copy.step = step;
            copy.fee = fee;
            copy.minute = minute;
            copy.sellers = sellers;
            copy.house = house;
            copy.open = open;
            copy.bid = bid;
            copy.leader = leader;
            copy.quiet = quiet;
            barrels.forEach(barrel -> copy.barrels.add(barrel.copy()));
            copy.queue.addAll(queue);
            buyers.forEach(buyer -> copy.buyers.add(buyer.clone()));
            return copy;
        }

        boolean openIn(int asked) {
            return asked % period < low;
        }

        boolean hornIn(int asked) {
            return asked > 0 && !openIn(asked) && openIn(asked - 1);
        }

        double worth(int buyer, int barrel) {
            int factor = buyers.get(buyer)[2];
            Eels eels = barrels.get(barrel);
            int number = eels.lengths.size();
            switch (buyers.get(buyer)[1]) {
                case 0:
                    return 0.0;
                case 1:
                    return (double) (factor * eels.sum()) / 100.0;
                case 2:
                    return (double) (factor * number) / 10.0;
                case 3:
                    return (double) (factor * Collections.max(eels.lengths) * number) / 100.0;
                default:
                    return (double) (factor * (int) eels.lengths.stream().filter(length -> length >= 60).count()) / 5.0;
            }
        }

        int cost(int price) {
            return price + price * fee / 100;
        }

        int next() {
            if (open == -1) {
                return -1;
            }
            return leader == -1 ? barrels.get(open).reserve : bid + step;
        }

        int why(int buyer) {
            if (!openIn(minute)) {
                return 1;
            }
            if (open == -1) {
                return 2;
            }
            if (leader == buyer) {
                return 3;
            }
            return buyers.get(buyer)[0] < cost(next()) ? 4 : 0;
        }

        void nod(int buyer) {
            bid = next();
            leader = buyer;
            quiet = 0;
            buyers.get(buyer)[4]++;
        }

        int nodder() {
            if (open == -1 || !openIn(minute)) {
                return -1;
            }
            List<Integer> asked = new ArrayList<>();
            for (int i = leader + 1; i < buyers.size(); i++) {
                asked.add(i);
            }
            for (int i = 0; i <= leader; i++) {
                asked.add(i);
            }
            for (int buyer : asked) {
                if (why(buyer) == 0 && worth(buyer, open) >= next()) {
                    return buyer;
                }
            }
            return -1;
        }

        void close() {
            Eels barrel = barrels.get(open);
            if (leader != -1) {
                buyers.get(leader)[0] -= cost(bid);
                buyers.get(leader)[3]++;
                sellers += bid;
                house += cost(bid) - bid;
                barrel.state = 2;
                barrel.buyer = leader;
                barrel.price = bid;
            } else {
                barrel.returns++;
                barrel.state = barrel.returns == 3 ? 3 : 0;
                if (barrel.state == 0) {
                    queue.add(open);
                }
            }
            open = -1;
            bid = -1;
            leader = -1;
            quiet = -1;
        }

        void pass() {
            minute++;
            if (hornIn(minute) && open != -1) {
                close();
            }
            if (!openIn(minute)) {
                return;
            }
            if (open == -1) {
                if (!queue.isEmpty()) {
                    open = queue.remove(0);
                    barrels.get(open).state = 1;
                    quiet = 0;
                }
                return;
            }
            int buyer = nodder();
            if (buyer != -1) {
                nod(buyer);
                return;
            }
            quiet++;
            if (quiet == patience) {
                close();
            }
        }

        State after(int minutes) {
            State copy = copy();
            for (int i = 0; i < minutes; i++) {
                copy.pass();
            }
            return copy;
        }

        int sold() {
            return (int) barrels.stream().filter(barrel -> barrel.state == 2).count();
        }

        int add(int reserve, List<Integer> lengths) {
            if (barrels.size() == 20) {
                throw new IllegalStateException();
            }
            barrels.add(new Eels(reserve, lengths));
            queue.add(barrels.size() - 1);
            return barrels.size() - 1;
        }
    }

    private State now;
    private final Deque<State> changes = new ArrayDeque<>();
    private final State[] slots = new State[2];
    private String buffer = "";
    private String output = "";
    private int code;
    private int position = -1;

    Model() {
        now = setup(FIRST);
    }

    // ---- texts

    private final List<String> tokens = new ArrayList<>();
    private final List<Integer> places = new ArrayList<>();
    private int at;

    private void cut(String text) {
        tokens.clear();
        places.clear();
        at = 0;
        Matcher matcher = TOKEN.matcher(text);
        while (matcher.find()) {
            tokens.add(matcher.group());
            places.add(matcher.start());
        }
        tokens.add("");
        places.add(text.length());
    }

    private String token() {
        return tokens.get(at);
    }

    private boolean isNumber() {
        return token().matches("[0-9]+");
    }

    private boolean inRange(int least, int most) {
        BigInteger value = new BigInteger(token());
        return value.compareTo(BigInteger.valueOf(least)) >= 0 && value.compareTo(BigInteger.valueOf(most)) <= 0;
    }

    private Refusal error(int errorCode) {
        return new Refusal(errorCode, places.get(at));
    }

    private void sign(String due) {
        if (!token().equals(due)) {
            throw error(1);
        }
        at++;
    }

    private int number(int least, int most) {
        if (!isNumber()) {
            throw error(1);
        }
        if (!inRange(least, most)) {
            throw error(2);
        }
        return new BigInteger(tokens.get(at++)).intValue();
    }

    private List<Integer> lengths() {
        List<Integer> lengths = new ArrayList<>();
        lengths.add(number(10, 150));
        while (isNumber()) {
            int length = number(10, 150);
            if (lengths.size() == 9) {
                at--;
                throw error(3);
            }
            lengths.add(length);
        }
        return lengths;
    }

    private State setup(String text) {
        cut(text);
        State made = new State();
        sign("market");
        made.period = number(5, 60);
        made.low = number(1, made.period);
        made.patience = number(1, 9);
        made.step = number(1, 50);
        made.fee = number(0, 50);
        sign(";");
        do {
            if (made.buyers.size() == 6) {
                throw error(3);
            }
            sign("buyer");
            made.buyers.add(new int[] {number(0, 9999), number(0, 4), number(1, 999), 0, 0});
            sign(";");
        } while (token().equals("buyer"));
        while (token().equals("barrel")) {
            if (made.barrels.size() == 20) {
                throw error(3);
            }
            sign("barrel");
            int reserve = number(1, 999);
            made.add(reserve, lengths());
            sign(";");
        }
        sign("");
        return made;
    }

    /** A command as its number in COMMANDS, and its numbers. */
    private List<List<Integer>> script(String text) {
        cut(text);
        List<List<Integer>> script = new ArrayList<>();
        while (!token().isEmpty()) {
            int command = COMMANDS.indexOf(token());
            if (command == -1) {
                throw error(1);
            }
            if (script.size() == 20) {
                throw error(3);
            }
            at++;
            List<Integer> line = new ArrayList<>(List.of(command));
            int lastBuyer = now.buyers.size() - 1;
            switch (COMMANDS.get(command)) {
                case "nod":
                    line.add(number(0, lastBuyer));
                    break;
                case "wait":
                    line.add(number(1, 200));
                    break;
                case "split":
                    line.add(number(0, 19));
                    line.add(number(1, 8));
                    break;
                case "pay":
                    line.add(number(0, lastBuyer));
                    line.add(number(1, 9999));
                    break;
                case "withdraw":
                    line.add(number(0, 19));
                    break;
                default:
                    line.add(number(1, 999));
                    line.addAll(lengths());
                    break;
            }
            sign(";");
            script.add(line);
        }
        return script;
    }

    private void execute(List<Integer> line) {
        switch (COMMANDS.get(line.get(0))) {
            case "nod":
                nod(line.get(1));
                break;
            case "wait":
                passMinutes(line.get(1));
                break;
            case "split":
                split(line.get(1), line.get(2));
                break;
            case "pay":
                fund(line.get(1), line.get(2));
                break;
            case "withdraw":
                withdraw(line.get(1));
                break;
            default:
                now.add(line.get(1), line.subList(2, line.size()));
                break;
        }
    }

    // ---- what a call asks for first

    private void changed() {
        changes.addLast(now.copy());
        if (changes.size() > 8) {
            changes.removeFirst();
        }
    }

    private Eels barrel(int barrel) {
        if (barrel < 0 || barrel >= now.barrels.size()) {
            throw new IndexOutOfBoundsException();
        }
        return now.barrels.get(barrel);
    }

    private int[] buyer(int buyer) {
        if (buyer < 0 || buyer >= now.buyers.size()) {
            throw new IndexOutOfBoundsException();
        }
        return now.buyers.get(buyer);
    }

    private static void range(int value, int least, int most) {
        if (value < least || value > most) {
            throw new IllegalArgumentException();
        }
    }

    private static void must(boolean holds) {
        if (!holds) {
            throw new IllegalStateException();
        }
    }

    // ---- the calls

    public int append(int a, int b, int c, int d, int e) {
        must(buffer.length() + 20 <= 500);
        byte[] bytes = new byte[20];
        int[] fours = {a, b, c, d, e};
        for (int i = 0; i < 20; i++) {
            bytes[i] = (byte) (fours[i / 4] >> 8 * (3 - i % 4));
        }
        buffer += new String(bytes, StandardCharsets.ISO_8859_1);
        return buffer.length();
    }

    public int truncate(int length) {
        range(length, 0, buffer.length());
        buffer = buffer.substring(0, length);
        return length;
    }

    public int errorCode() {
        return code;
    }

    public int errorPosition() {
        return position;
    }

    public int loadSetup() {
        String text = buffer;
        buffer = "";
        try {
            State made = setup(text);
            code = 0;
            position = -1;
            changed();
            now = made;
            return made.barrels.size();
        } catch (Refusal error) {
            code = error.code;
            position = error.position;
            throw new IllegalArgumentException();
        }
    }

    public int runScript() {
        String text = buffer;
        buffer = "";
        List<List<Integer>> script;
        try {
            script = script(text);
            code = 0;
            position = -1;
        } catch (Refusal error) {
            code = error.code;
            position = error.position;
            throw new IllegalArgumentException();
        }
        List<State> earlier = new ArrayList<>(changes);
        State before = now.copy();
        int executed = 0;
        try {
            for (List<Integer> line : script) {
                execute(line);
                executed++;
            }
        } catch (RuntimeException end) {
            // the script ends before this command
        }
        changes.clear();
        changes.addAll(earlier);
        State result = now;
        now = before;
        changed();
        now = result;
        return executed;
    }

    public int nod(int buyer) {
        buyer(buyer);
        must(now.why(buyer) == 0);
        changed();
        now.nod(buyer);
        return now.bid;
    }

    public int passMinutes(int minutes) {
        range(minutes, 1, 200);
        changed();
        int before = now.sold();
        now = now.after(minutes);
        return now.sold() - before;
    }

    public int addBarrel(int reserve, int eels, int length) {
        range(reserve, 1, 999);
        range(eels, 1, 9);
        range(length, 10, 150);
        must(now.barrels.size() < 20);
        changed();
        return now.add(reserve, Collections.nCopies(eels, length));
    }

    public int split(int barrel, int eels) {
        Eels old = barrel(barrel);
        range(eels, 1, 8);
        int number = old.lengths.size();
        must(old.state == 0 && number > eels && now.barrels.size() < 20);
        changed();
        int quotient = old.reserve * eels / number;
        int added = now.add(Math.max(1, quotient), old.lengths.subList(number - eels, number));
        old.lengths = new ArrayList<>(old.lengths.subList(0, number - eels));
        old.reserve = Math.max(1, old.reserve - quotient);
        return added;
    }

    public int withdraw(int barrel) {
        must(barrel(barrel).state == 0);
        changed();
        barrel(barrel).state = 3;
        now.queue.remove(Integer.valueOf(barrel));
        return now.queue.size();
    }

    public int fund(int buyer, int coins) {
        int[] funded = buyer(buyer);
        range(coins, 1, 9999);
        changed();
        funded[0] = Math.min(99999, funded[0] + coins);
        return funded[0];
    }

    public int setReserve(int barrel, int reserve) {
        Eels set = barrel(barrel);
        range(reserve, 1, 999);
        must(set.state == 0);
        changed();
        int previous = set.reserve;
        set.reserve = reserve;
        return previous;
    }

    public int setStep(int step) {
        range(step, 1, 50);
        changed();
        int previous = now.step;
        now.step = step;
        return previous;
    }

    public int setTaste(int buyer, int style, int factor) {
        int[] set = buyer(buyer);
        range(style, 0, 4);
        range(factor, 1, 999);
        changed();
        int previous = set[1];
        set[1] = style;
        set[2] = factor;
        return previous;
    }

    public int undo() {
        if (changes.isEmpty()) {
            throw new NoSuchElementException();
        }
        now = changes.removeLast();
        return changes.size();
    }

    public void saveSnapshot(int slot) {
        range(slot, 0, 1);
        slots[slot] = now.copy();
    }

    public int restoreSnapshot(int slot) {
        range(slot, 0, 1);
        if (slots[slot] == null) {
            throw new NoSuchElementException();
        }
        changed();
        now = slots[slot].copy();
        return now.minute;
    }

    public int minute() {
        return now.minute;
    }

    public boolean isOpen() {
        return now.openIn(now.minute);
    }

    public int minutesToHorn() {
        for (int minutes = 1; minutes <= 60; minutes++) {
            if (now.hornIn(now.minute + minutes)) {
                return minutes;
            }
        }
        return -1;
    }

    public int step() {
        return now.step;
    }

    public int sellerCoins() {
        return now.sellers;
    }

    public int houseCoins() {
        return now.house;
    }

    public int openBarrel() {
        return now.open;
    }

    public int bid() {
        return now.bid;
    }

    public int leader() {
        return now.leader;
    }

    public int nextBid() {
        return now.next();
    }

    public int quiet() {
        return now.quiet;
    }

    public int queueLength() {
        return now.queue.size();
    }

    public int queuedBarrel(int place) {
        return place >= 0 && place < now.queue.size() ? now.queue.get(place) : -1;
    }

    public int barrelCount() {
        return now.barrels.size();
    }

    public int eels(int barrel) {
        return barrel(barrel).lengths.size();
    }

    public int length(int barrel, int eel) {
        List<Integer> lengths = barrel(barrel).lengths;
        if (eel < 0 || eel >= lengths.size()) {
            throw new IndexOutOfBoundsException();
        }
        return lengths.get(eel);
    }

    public int totalLength(int barrel) {
        return barrel(barrel).sum();
    }

    public int greatestLength(int barrel) {
        return Collections.max(barrel(barrel).lengths);
    }

    public int middleLength(int barrel) {
        List<Integer> sorted = new ArrayList<>(barrel(barrel).lengths);
        Collections.sort(sorted);
        return sorted.get((sorted.size() - 1) / 2);
    }

    public int reserve(int barrel) {
        return barrel(barrel).reserve;
    }

    public int stateOf(int barrel) {
        return barrel(barrel).state;
    }

    public int returns(int barrel) {
        return barrel(barrel).returns;
    }

    public int buyerOf(int barrel) {
        return barrel(barrel).buyer;
    }

    public int priceOf(int barrel) {
        return barrel(barrel).price;
    }

    public float pricePerLength(int barrel) {
        Eels asked = barrel(barrel);
        return asked.state == 2 ? (float) asked.price / (float) asked.sum() : 0.0f;
    }

    public int buyerCount() {
        return now.buyers.size();
    }

    public int purse(int buyer) {
        return buyer(buyer)[0];
    }

    public int style(int buyer) {
        return buyer(buyer)[1];
    }

    public int factor(int buyer) {
        return buyer(buyer)[2];
    }

    public int bought(int buyer) {
        return buyer(buyer)[3];
    }

    public int nods(int buyer) {
        return buyer(buyer)[4];
    }

    public double worth(int buyer, int barrel) {
        buyer(buyer);
        barrel(barrel);
        return now.worth(buyer, barrel);
    }

    public int whyNotNod(int buyer) {
        buyer(buyer);
        return now.why(buyer);
    }

    public int costOf(int price) {
        range(price, 0, 9999);
        return now.cost(price);
    }

    public int nextNodder() {
        return now.nodder();
    }

    public int keenestBuyer(int barrel) {
        barrel(barrel);
        double[] worths = new double[now.buyers.size()];
        Arrays.setAll(worths, buyer -> now.worth(buyer, barrel));
        double most = Arrays.stream(worths).max().getAsDouble();
        int keenest = 0;
        while (worths[keenest] != most) {
            keenest++;
        }
        return keenest;
    }

    public int minutesToSale(int barrel) {
        barrel(barrel);
        State later = now.copy();
        for (int minutes = 0; minutes <= 500; minutes++) {
            if (later.barrels.get(barrel).state == 2) {
                return minutes;
            }
            later.pass();
        }
        return -1;
    }

    public int buyerAfter(int barrel, int minutes) {
        barrel(barrel);
        range(minutes, 0, 500);
        return now.after(minutes).barrels.get(barrel).buyer;
    }

    public int sellerCoinsAfter(int minutes) {
        range(minutes, 0, 500);
        return now.after(minutes).sellers;
    }

    public int bestStep(int minutes) {
        range(minutes, 0, 500);
        int best = 1;
        int most = -1;
        for (int step = 1; step <= 50; step++) {
            State tried = now.copy();
            tried.step = step;
            int coins = tried.after(minutes).sellers;
            if (coins > most) {
                most = coins;
                best = step;
            }
        }
        return best;
    }

    public int coinError() {
        return 0;
    }

    public double meanLength() {
        int sum = now.barrels.stream().mapToInt(Eels::sum).sum();
        int eels = now.barrels.stream().mapToInt(barrel -> barrel.lengths.size()).sum();
        return eels == 0 ? 0.0 : (double) sum / (double) eels;
    }

    public float soldShare() {
        return now.barrels.isEmpty() ? 0.0f : (float) now.sold() / (float) now.barrels.size();
    }

    public int writeBarrel(int barrel) {
        Eels written = barrel(barrel);
        String[] ends = {"", "?", "=" + written.price, "x"};
        output = joined(written.lengths) + ends[written.state];
        return output.length();
    }

    public int writeQueue() {
        output = joined(now.queue);
        return output.length();
    }

    public int outputByte(int index) {
        return index >= 0 && index < output.length() ? output.charAt(index) : -1;
    }

    private static String joined(List<Integer> numbers) {
        return numbers.toString().replaceAll("[^0-9,]", "");
    }
}
