import java.util.Arrays;
import java.util.NoSuchElementException;

/**
 * An eel auction that is open at low water only. The document ../shared/DOC.md says what every
 * call answers; this class keeps the whole state of an auction in a {@link Market}, so that undo,
 * snapshots and forecasts are copies of one Market into another.
 *
 * All rows are made in constructors and used again: no call makes an object.
 */
public final class LowWaterAuction {
    public static final int NONE = -1;
    public static final int SYNTAX = 1;
    public static final int RANGE = 2;
    public static final int LIMIT = 3;

    private static final String FIRST_SETUP =
        "market 20 12 2 5 10; buyer 200 1 50; buyer 90 2 60; buyer 300 0 1; barrel 20 40 55 30; barrel 50 100 90; barrel 10 15;";

    private static final int MAX_BYTES = 500;
    private static final int BYTES_PER_APPEND = 20;
    private static final int MAX_COMMANDS = 20;
    private static final int MAX_CHANGES = 8;
    private static final int SLOTS = 2;

    private static final int MIN_PERIOD = 5;
    private static final int MAX_PERIOD = 60;
    private static final int MAX_PATIENCE = 9;
    private static final int MAX_STEP = 50;
    private static final int MAX_FEE = 50;
    private static final int MAX_BUYERS = 6;
    private static final int MAX_FIRST_PURSE = 9999;
    private static final int MAX_PURSE = 99999;
    private static final int MAX_COINS = 9999;
    private static final int MAX_STYLE = 4;
    private static final int MAX_FACTOR = 999;
    private static final int MAX_BARRELS = 20;
    private static final int MAX_RESERVE = 999;
    private static final int MAX_EELS = 9;
    private static final int MAX_SPLIT = 8;
    private static final int MIN_LENGTH = 10;
    private static final int MAX_LENGTH = 150;
    private static final int LONG_EEL = 60;
    private static final int MAX_RETURNS = 3;
    private static final int MAX_MINUTES = 200;
    private static final int MAX_FORECAST = 500;
    private static final int MAX_PRICE = 9999;

    private static final int WAITING = 0;
    private static final int OPEN = 1;
    private static final int SOLD = 2;
    private static final int WITHDRAWN = 3;

    private static final int CAN_NOD = 0;
    private static final int MARKET_CLOSED = 1;
    private static final int NO_OPEN_BARREL = 2;
    private static final int LEADS_ALREADY = 3;
    private static final int PURSE_TOO_SMALL = 4;

    private static final Verb[] VERBS = Verb.values();

    private final Market market = new Market();
    // Setups are read into it and forecasts run in it, so that the market itself stays as it is.
    private final Market scratch = new Market();
    private final History history = new History();
    private final Market[] snapshots = new Market[SLOTS];
    private final boolean[] isSaved = new boolean[SLOTS];
    private final Parser parser = new Parser();
    private final int[] evenLengths = new int[MAX_EELS];
    private final StringBuilder output = new StringBuilder();

    public LowWaterAuction() {
        for (int slot = 0; slot < SLOTS; slot++) {
            snapshots[slot] = new Market();
        }
        parser.input.addSigns(FIRST_SETUP);
        parser.readSetup(market);
        parser.input.size = 0;
    }

    // ---- input

    public int append(int a, int b, int c, int d, int e) throws IllegalStateException {
        InputText input = parser.input;
        if (input.size + BYTES_PER_APPEND > MAX_BYTES) {
            throw new IllegalStateException("the input buffer has no room for twenty bytes");
        }
        input.addFour(a);
        input.addFour(b);
        input.addFour(c);
        input.addFour(d);
        input.addFour(e);
        return input.size;
    }

    public int truncate(int length) throws IllegalArgumentException {
        requireRange(length, 0, parser.input.size);
        parser.input.size = length;
        return length;
    }

    public int errorCode() {
        return parser.faultCode;
    }

    public int errorPosition() {
        return parser.faultPlace;
    }

    // ---- changes

    public int loadSetup() throws IllegalArgumentException {
        boolean good = parser.readSetup(scratch);
        parser.input.size = 0;
        if (!good) {
            throw new IllegalArgumentException("the setup has an error");
        }
        history.remember(market);
        market.copyFrom(scratch);
        return market.barrelCount;
    }

    public int runScript() throws IllegalArgumentException {
        boolean good = parser.readScript(market.buyerCount);
        parser.input.size = 0;
        if (!good) {
            throw new IllegalArgumentException("the script has an error");
        }
        history.remember(market);
        int executed = 0;
        while (executed < parser.commandCount && market.execute(parser.commands[executed])) {
            executed++;
        }
        return executed;
    }

    public int nod(int buyer) throws IndexOutOfBoundsException, IllegalStateException {
        requireBuyer(buyer);
        requireState(market.refusal(buyer) == CAN_NOD);
        history.remember(market);
        market.takeNod(buyer);
        return market.bid;
    }

    public int passMinutes(int minutes) throws IllegalArgumentException {
        requireRange(minutes, 1, MAX_MINUTES);
        history.remember(market);
        return market.letPass(minutes);
    }

    public int addBarrel(int reserve, int eels, int length) throws IllegalArgumentException, IllegalStateException {
        requireRange(reserve, 1, MAX_RESERVE);
        requireRange(eels, 1, MAX_EELS);
        requireRange(length, MIN_LENGTH, MAX_LENGTH);
        requireState(market.hasRoom());
        history.remember(market);
        Arrays.fill(evenLengths, length);
        return market.takeBarrel(reserve, evenLengths, 0, eels);
    }

    public int split(int barrel, int eels) throws IndexOutOfBoundsException, IllegalArgumentException, IllegalStateException {
        requireBarrel(barrel);
        requireRange(eels, 1, MAX_SPLIT);
        requireState(market.canCut(barrel, eels));
        history.remember(market);
        return market.cut(barrel, eels);
    }

    public int withdraw(int barrel) throws IndexOutOfBoundsException, IllegalStateException {
        requireBarrel(barrel);
        requireState(market.isWaiting(barrel));
        history.remember(market);
        market.takeAway(barrel);
        return market.queueLength;
    }

    public int fund(int buyer, int coins) throws IndexOutOfBoundsException, IllegalArgumentException {
        requireBuyer(buyer);
        requireRange(coins, 1, MAX_COINS);
        history.remember(market);
        market.putCoins(buyer, coins);
        return market.buyers[buyer].purse;
    }

    public int setReserve(int barrel, int reserve) throws IndexOutOfBoundsException, IllegalArgumentException, IllegalStateException {
        requireBarrel(barrel);
        requireRange(reserve, 1, MAX_RESERVE);
        requireState(market.isWaiting(barrel));
        history.remember(market);
        int previous = market.barrels[barrel].reserve;
        market.barrels[barrel].reserve = reserve;
        return previous;
    }

    public int setStep(int step) throws IllegalArgumentException {
        requireRange(step, 1, MAX_STEP);
        history.remember(market);
        int previous = market.step;
        market.step = step;
        return previous;
    }

    public int setTaste(int buyer, int style, int factor) throws IndexOutOfBoundsException, IllegalArgumentException {
        requireBuyer(buyer);
        requireRange(style, 0, MAX_STYLE);
        requireRange(factor, 1, MAX_FACTOR);
        history.remember(market);
        Buyer changed = market.buyers[buyer];
        int previous = changed.style;
        changed.style = style;
        changed.factor = factor;
        return previous;
    }

    public int undo() throws NoSuchElementException {
        if (history.count == 0) {
            throw new NoSuchElementException("no change can be undone");
        }
        history.takeBack(market);
        return history.count;
    }

    public void saveSnapshot(int slot) throws IllegalArgumentException {
        requireRange(slot, 0, SLOTS - 1);
        snapshots[slot].copyFrom(market);
        isSaved[slot] = true;
    }

    public int restoreSnapshot(int slot) throws IllegalArgumentException, NoSuchElementException {
        requireRange(slot, 0, SLOTS - 1);
        if (!isSaved[slot]) {
            throw new NoSuchElementException("the slot is empty");
        }
        history.remember(market);
        market.copyFrom(snapshots[slot]);
        return market.tide.minute;
    }

    // ---- market and tide

    public int minute() {
        return market.tide.minute;
    }

    public boolean isOpen() {
        return market.tide.isLow();
    }

    public int minutesToHorn() {
        return market.tide.untilHorn();
    }

    public int step() {
        return market.step;
    }

    public int sellerCoins() {
        return market.sellerCoins;
    }

    public int houseCoins() {
        return market.houseCoins;
    }

    // ---- bidding

    public int openBarrel() {
        return market.openBarrel;
    }

    public int bid() {
        return market.bid;
    }

    public int leader() {
        return market.leader;
    }

    public int nextBid() {
        return market.nextPrice();
    }

    public int quiet() {
        return market.quiet;
    }

    public int queueLength() {
        return market.queueLength;
    }

    public int queuedBarrel(int place) {
        if (place < 0 || place >= market.queueLength) {
            return NONE;
        }
        return market.queue[place];
    }

    // ---- barrels

    public int barrelCount() {
        return market.barrelCount;
    }

    public int eels(int barrel) throws IndexOutOfBoundsException {
        return barrelAt(barrel).eels;
    }

    public int length(int barrel, int eel) throws IndexOutOfBoundsException {
        Barrel asked = barrelAt(barrel);
        if (eel < 0 || eel >= asked.eels) {
            throw new IndexOutOfBoundsException("no such eel");
        }
        return asked.lengths[eel];
    }

    public int totalLength(int barrel) throws IndexOutOfBoundsException {
        return barrelAt(barrel).total;
    }

    public int greatestLength(int barrel) throws IndexOutOfBoundsException {
        return barrelAt(barrel).greatest;
    }

    public int middleLength(int barrel) throws IndexOutOfBoundsException {
        return barrelAt(barrel).lengthAtRank((barrelAt(barrel).eels - 1) / 2);
    }

    public int reserve(int barrel) throws IndexOutOfBoundsException {
        return barrelAt(barrel).reserve;
    }

    public int stateOf(int barrel) throws IndexOutOfBoundsException {
        return barrelAt(barrel).state;
    }

    public int returns(int barrel) throws IndexOutOfBoundsException {
        return barrelAt(barrel).returns;
    }

    public int buyerOf(int barrel) throws IndexOutOfBoundsException {
        return barrelAt(barrel).buyer;
    }

    public int priceOf(int barrel) throws IndexOutOfBoundsException {
        return barrelAt(barrel).price;
    }

    public float pricePerLength(int barrel) throws IndexOutOfBoundsException {
        Barrel asked = barrelAt(barrel);
        if (asked.state != SOLD || asked.total == 0) {
            return 0.0f;
        }
        return (float) asked.price / (float) asked.total;
    }

    // ---- buyers

    public int buyerCount() {
        return market.buyerCount;
    }

    public int purse(int buyer) throws IndexOutOfBoundsException {
        return buyerAt(buyer).purse;
    }

    public int style(int buyer) throws IndexOutOfBoundsException {
        return buyerAt(buyer).style;
    }

    public int factor(int buyer) throws IndexOutOfBoundsException {
        return buyerAt(buyer).factor;
    }

    public int bought(int buyer) throws IndexOutOfBoundsException {
        return buyerAt(buyer).bought;
    }

    public int nods(int buyer) throws IndexOutOfBoundsException {
        return buyerAt(buyer).nods;
    }

    public double worth(int buyer, int barrel) throws IndexOutOfBoundsException {
        return buyerAt(buyer).valueOf(barrelAt(barrel));
    }

    // ---- questions; nothing changes

    public int whyNotNod(int buyer) throws IndexOutOfBoundsException {
        requireBuyer(buyer);
        return market.refusal(buyer);
    }

    public int costOf(int price) throws IllegalArgumentException {
        requireRange(price, 0, MAX_PRICE);
        return market.withFee(price);
    }

    public int nextNodder() {
        return market.whoNods();
    }

    public int keenestBuyer(int barrel) throws IndexOutOfBoundsException {
        return market.keenest(barrelAt(barrel));
    }

    public int minutesToSale(int barrel) throws IndexOutOfBoundsException {
        if (barrelAt(barrel).state == SOLD) {
            return 0;
        }
        scratch.copyFrom(market);
        Barrel awaited = scratch.barrels[barrel];
        for (int minutes = 1; minutes <= MAX_FORECAST; minutes++) {
            scratch.letPass(1);
            if (awaited.state == SOLD) {
                return minutes;
            }
        }
        return NONE;
    }

    public int buyerAfter(int barrel, int minutes) throws IndexOutOfBoundsException, IllegalArgumentException {
        requireBarrel(barrel);
        requireRange(minutes, 0, MAX_FORECAST);
        foresee(market.step, minutes);
        return scratch.barrels[barrel].buyer;
    }

    public int sellerCoinsAfter(int minutes) throws IllegalArgumentException {
        requireRange(minutes, 0, MAX_FORECAST);
        foresee(market.step, minutes);
        return scratch.sellerCoins;
    }

    public int bestStep(int minutes) throws IllegalArgumentException {
        requireRange(minutes, 0, MAX_FORECAST);
        int best = NONE;
        int most = NONE;
        for (int step = 1; step <= MAX_STEP; step++) {
            foresee(step, minutes);
            if (scratch.sellerCoins > most) {
                best = step;
                most = scratch.sellerCoins;
            }
        }
        return best;
    }

    // ---- checks and output

    public int coinError() {
        return market.coinsPutIn - market.coinsInPurses() - market.sellerCoins - market.houseCoins;
    }

    public double meanLength() {
        int lengths = 0;
        int eels = 0;
        for (int i = 0; i < market.barrelCount; i++) {
            lengths += market.barrels[i].total;
            eels += market.barrels[i].eels;
        }
        return eels == 0 ? 0.0 : (double) lengths / (double) eels;
    }

    public float soldShare() {
        int sold = 0;
        for (int i = 0; i < market.barrelCount; i++) {
            if (market.barrels[i].state == SOLD) {
                sold++;
            }
        }
        return market.barrelCount == 0 ? 0.0f : (float) sold / (float) market.barrelCount;
    }

    public int writeBarrel(int barrel) throws IndexOutOfBoundsException {
        Barrel written = barrelAt(barrel);
        writeList(written.lengths, written.eels);
        if (written.state == SOLD) {
            output.append('=').append(written.price);
        } else if (written.state == OPEN) {
            output.append('?');
        } else if (written.state == WITHDRAWN) {
            output.append('x');
        }
        return output.length();
    }

    public int writeQueue() {
        writeList(market.queue, market.queueLength);
        return output.length();
    }

    public int outputByte(int index) {
        if (index < 0 || index >= output.length()) {
            return NONE;
        }
        return output.charAt(index);
    }

    // ---- helpers of the calls

    private void writeList(int[] numbers, int count) {
        output.setLength(0);
        for (int i = 0; i < count && i < numbers.length; i++) {
            if (i > 0) {
                output.append(',');
            }
            output.append(numbers[i]);
        }
    }

    private void foresee(int step, int minutes) {
        scratch.copyFrom(market);
        scratch.step = step;
        scratch.letPass(minutes);
    }

    private Barrel barrelAt(int barrel) {
        requireBarrel(barrel);
        return market.barrels[barrel];
    }

    private Buyer buyerAt(int buyer) {
        requireBuyer(buyer);
        return market.buyers[buyer];
    }

    private void requireBarrel(int barrel) {
        if (!market.hasBarrel(barrel)) {
            throw new IndexOutOfBoundsException("no such barrel");
        }
    }

    private void requireBuyer(int buyer) {
        if (!market.hasBuyer(buyer)) {
            throw new IndexOutOfBoundsException("no such buyer");
        }
    }

    private static void requireRange(int value, int least, int most) {
        if (value < least || value > most) {
            throw new IllegalArgumentException("an argument is out of its range");
        }
    }

    private static void requireState(boolean allowed) {
        if (!allowed) {
            throw new IllegalStateException("the state does not allow this");
        }
    }

    /** The minutes, and which of them are low water. */
    private static final class Tide {
        int period = MIN_PERIOD;
        int low = 1;
        int minute;

        boolean isLow() {
            return period > 0 && minute % period < low;
        }

        /** The first closed minute behind an open one has this phase; if it is always open, none has. */
        boolean hornBlows() {
            return period > 0 && minute % period == low;
        }

        int untilHorn() {
            if (period <= 0 || low >= period) {
                return NONE;
            }
            int wait = low - minute % period;
            return wait > 0 ? wait : wait + period;
        }

        void copyFrom(Tide other) {
            period = other.period;
            low = other.low;
            minute = other.minute;
        }
    }

    /** The eels of a barrel with their measures, and what has become of it. */
    private static final class Barrel {
        final int[] lengths = new int[MAX_EELS];
        int eels;
        // The buyers ask for these in every minute of a forecast, so they are kept and not summed anew.
        int total;
        int greatest;
        int longEels;
        int reserve;
        int returns;
        int state;
        int buyer;
        int price;

        void fill(int[] from, int first, int end) {
            emptyOut();
            for (int i = first; i >= 0 && i < end && i < from.length; i++) {
                addEel(from[i]);
            }
        }

        void keepFirst(int kept) {
            fill(lengths, 0, kept);
        }

        void beginWaiting(int newReserve) {
            reserve = newReserve;
            returns = 0;
            state = WAITING;
            buyer = NONE;
            price = NONE;
        }

        int lengthAtRank(int rank) {
            for (int i = 0; i < eels; i++) {
                int shorter = 0;
                int notLonger = 0;
                for (int other = 0; other < eels; other++) {
                    shorter += lengths[other] < lengths[i] ? 1 : 0;
                    notLonger += lengths[other] <= lengths[i] ? 1 : 0;
                }
                if (shorter <= rank && rank < notLonger) {
                    return lengths[i];
                }
            }
            return NONE;
        }

        void copyFrom(Barrel other) {
            System.arraycopy(other.lengths, 0, lengths, 0, MAX_EELS);
            eels = other.eels;
            total = other.total;
            greatest = other.greatest;
            longEels = other.longEels;
            reserve = other.reserve;
            returns = other.returns;
            state = other.state;
            buyer = other.buyer;
            price = other.price;
        }

        private void emptyOut() {
            eels = 0;
            total = 0;
            greatest = 0;
            longEels = 0;
        }

        private void addEel(int length) {
            if (eels >= MAX_EELS) {
                return;
            }
            lengths[eels] = length;
            eels++;
            total += length;
            greatest = Math.max(greatest, length);
            longEels += length >= LONG_EEL ? 1 : 0;
        }
    }

    /** A purse and a taste. */
    private static final class Buyer {
        int purse;
        int style;
        int factor;
        int bought;
        int nods;

        void begin(int newPurse, int newStyle, int newFactor) {
            purse = newPurse;
            style = newStyle;
            factor = newFactor;
            bought = 0;
            nods = 0;
        }

        double valueOf(Barrel barrel) {
            switch (style) {
                case 1:
                    return (double) (factor * barrel.total) / 100.0;
                case 2:
                    return (double) (factor * barrel.eels) / 10.0;
                case 3:
                    return (double) (factor * barrel.greatest * barrel.eels) / 100.0;
                case 4:
                    return (double) (factor * barrel.longEels) / 5.0;
                default:
                    return 0.0;
            }
        }

        void copyFrom(Buyer other) {
            purse = other.purse;
            style = other.style;
            factor = other.factor;
            bought = other.bought;
            nods = other.nods;
        }
    }

    /** The whole state that undo, snapshots and restoring concern, with the rules of the auction. */
    private static final class Market {
        final Tide tide = new Tide();
        int patience = 1;
        int step = 1;
        int fee;
        int sellerCoins;
        int houseCoins;
        int coinsPutIn;
        final Buyer[] buyers = new Buyer[MAX_BUYERS];
        int buyerCount;
        final Barrel[] barrels = new Barrel[MAX_BARRELS];
        int barrelCount;
        final int[] queue = new int[MAX_BARRELS];
        int queueLength;
        int openBarrel = NONE;
        int bid = NONE;
        int leader = NONE;
        int quiet = NONE;

        Market() {
            for (int i = 0; i < MAX_BUYERS; i++) {
                buyers[i] = new Buyer();
            }
            for (int i = 0; i < MAX_BARRELS; i++) {
                barrels[i] = new Barrel();
            }
        }

        void copyFrom(Market other) {
            tide.copyFrom(other.tide);
            patience = other.patience;
            step = other.step;
            fee = other.fee;
            sellerCoins = other.sellerCoins;
            houseCoins = other.houseCoins;
            coinsPutIn = other.coinsPutIn;
            buyerCount = other.buyerCount;
            for (int i = 0; i < buyerCount; i++) {
                buyers[i].copyFrom(other.buyers[i]);
            }
            barrelCount = other.barrelCount;
            for (int i = 0; i < barrelCount; i++) {
                barrels[i].copyFrom(other.barrels[i]);
            }
            System.arraycopy(other.queue, 0, queue, 0, MAX_BARRELS);
            queueLength = other.queueLength;
            openBarrel = other.openBarrel;
            bid = other.bid;
            leader = other.leader;
            quiet = other.quiet;
        }

        void beginEmpty() {
            tide.minute = 0;
            sellerCoins = 0;
            houseCoins = 0;
            coinsPutIn = 0;
            buyerCount = 0;
            barrelCount = 0;
            queueLength = 0;
            endBidding();
        }

        boolean hasBarrel(int barrel) {
            return barrel >= 0 && barrel < barrelCount;
        }

        boolean hasBuyer(int buyer) {
            return buyer >= 0 && buyer < buyerCount;
        }

        boolean hasRoom() {
            return barrelCount < MAX_BARRELS;
        }

        boolean isWaiting(int barrel) {
            return hasBarrel(barrel) && barrels[barrel].state == WAITING;
        }

        boolean canCut(int barrel, int eels) {
            return isWaiting(barrel) && eels >= 1 && barrels[barrel].eels > eels && hasRoom();
        }

        void takeBuyer(int purse, int style, int factor) {
            if (buyerCount < MAX_BUYERS) {
                buyers[buyerCount].begin(purse, style, factor);
                buyerCount++;
                coinsPutIn += purse;
            }
        }

        int takeBarrel(int reserve, int[] lengths, int first, int end) {
            if (!hasRoom()) {
                return NONE;
            }
            int number = barrelCount;
            barrelCount++;
            barrels[number].fill(lengths, first, end);
            barrels[number].beginWaiting(reserve);
            enqueue(number);
            return number;
        }

        int cut(int barrel, int eels) {
            if (!canCut(barrel, eels)) {
                return NONE;
            }
            Barrel old = barrels[barrel];
            int all = old.eels;
            int newReserve = old.reserve * eels / all;
            int added = takeBarrel(Math.max(newReserve, 1), old.lengths, all - eels, all);
            old.keepFirst(all - eels);
            old.reserve = Math.max(old.reserve - newReserve, 1);
            return added;
        }

        void takeAway(int barrel) {
            if (isWaiting(barrel)) {
                barrels[barrel].state = WITHDRAWN;
                dequeue(barrel);
            }
        }

        void putCoins(int buyer, int coins) {
            if (hasBuyer(buyer)) {
                int added = Math.min(coins, MAX_PURSE - buyers[buyer].purse);
                buyers[buyer].purse += added;
                coinsPutIn += added;
            }
        }

        int coinsInPurses() {
            int coins = 0;
            for (int i = 0; i < buyerCount; i++) {
                coins += buyers[i].purse;
            }
            return coins;
        }

        int keenest(Barrel barrel) {
            int keenest = 0;
            for (int i = 1; i < buyerCount; i++) {
                if (buyers[i].valueOf(barrel) > buyers[keenest].valueOf(barrel)) {
                    keenest = i;
                }
            }
            return keenest;
        }

        int withFee(int price) {
            return price + price * fee / 100;
        }

        int nextPrice() {
            if (openBarrel == NONE) {
                return NONE;
            }
            return leader == NONE ? barrels[openBarrel].reserve : bid + step;
        }

        int refusal(int buyer) {
            if (!tide.isLow()) {
                return MARKET_CLOSED;
            }
            if (openBarrel == NONE) {
                return NO_OPEN_BARREL;
            }
            if (buyer == leader) {
                return LEADS_ALREADY;
            }
            return hasBuyer(buyer) && buyers[buyer].purse >= withFee(nextPrice()) ? CAN_NOD : PURSE_TOO_SMALL;
        }

        int whoNods() {
            if (openBarrel == NONE) {
                return NONE;
            }
            Barrel barrel = barrels[openBarrel];
            int price = nextPrice();
            int buyer = leader;
            for (int asked = 0; asked < buyerCount; asked++) {
                buyer = buyer + 1 < buyerCount ? buyer + 1 : 0;
                if (refusal(buyer) == CAN_NOD && buyers[buyer].valueOf(barrel) >= price) {
                    return buyer;
                }
            }
            return NONE;
        }

        void takeNod(int buyer) {
            if (hasBuyer(buyer)) {
                bid = nextPrice();
                leader = buyer;
                quiet = 0;
                buyers[buyer].nods++;
            }
        }

        /** Answers the number of barrels sold. */
        int letPass(int minutes) {
            int sold = 0;
            for (int passed = 0; passed < minutes; passed++) {
                if (isIdle()) {
                    // Forecasts would otherwise walk through hundreds of minutes that change nothing else.
                    tide.minute += minutes - passed;
                    return sold;
                }
                if (passOneMinute()) {
                    sold++;
                }
            }
            return sold;
        }

        boolean execute(Command command) {
            switch (command.verb) {
                case NOD:
                    if (!hasBuyer(command.first) || refusal(command.first) != CAN_NOD) {
                        return false;
                    }
                    takeNod(command.first);
                    return true;
                case WAIT:
                    letPass(command.first);
                    return true;
                case SPLIT:
                    return cut(command.first, command.second) != NONE;
                case PAY:
                    putCoins(command.first, command.second);
                    return true;
                case WITHDRAW:
                    if (!isWaiting(command.first)) {
                        return false;
                    }
                    takeAway(command.first);
                    return true;
                default:
                    return takeBarrel(command.first, command.lengths, 0, command.eels) != NONE;
            }
        }

        private boolean isIdle() {
            return openBarrel == NONE && queueLength == 0;
        }

        /** Answers whether a barrel was sold. */
        private boolean passOneMinute() {
            tide.minute++;
            if (tide.hornBlows()) {
                return closeBarrel();
            }
            if (!tide.isLow()) {
                return false;
            }
            if (openBarrel == NONE) {
                openFirst();
                return false;
            }
            int buyer = whoNods();
            if (buyer != NONE) {
                takeNod(buyer);
                return false;
            }
            quiet++;
            return quiet == patience && closeBarrel();
        }

        private void openFirst() {
            if (queueLength > 0) {
                openBarrel = queue[0];
                quiet = 0;
                barrels[openBarrel].state = OPEN;
                dequeue(openBarrel);
            }
        }

        /** Answers whether the barrel was sold. */
        private boolean closeBarrel() {
            if (openBarrel == NONE) {
                return false;
            }
            boolean sold = leader != NONE;
            if (sold) {
                sell(barrels[openBarrel], buyers[leader]);
            } else {
                sendBack(openBarrel);
            }
            endBidding();
            return sold;
        }

        private void sell(Barrel barrel, Buyer buyer) {
            int cost = withFee(bid);
            buyer.purse -= cost;
            buyer.bought++;
            sellerCoins += bid;
            houseCoins += cost - bid;
            barrel.state = SOLD;
            barrel.buyer = leader;
            barrel.price = bid;
        }

        private void sendBack(int number) {
            Barrel barrel = barrels[number];
            barrel.returns++;
            if (barrel.returns == MAX_RETURNS) {
                barrel.state = WITHDRAWN;
            } else {
                barrel.state = WAITING;
                enqueue(number);
            }
        }

        private void endBidding() {
            openBarrel = NONE;
            bid = NONE;
            leader = NONE;
            quiet = NONE;
        }

        private void enqueue(int barrel) {
            if (queueLength < MAX_BARRELS) {
                queue[queueLength] = barrel;
                queueLength++;
            }
        }

        private void dequeue(int barrel) {
            int kept = 0;
            for (int i = 0; i < queueLength; i++) {
                if (queue[i] != barrel) {
                    queue[kept] = queue[i];
                    kept++;
                }
            }
            queueLength = kept;
        }
    }

    /** The states before the latest changes, the oldest of which is overwritten when there are too many. */
    private static final class History {
        final Market[] states = new Market[MAX_CHANGES];
        int next;
        int count;

        History() {
            for (int i = 0; i < MAX_CHANGES; i++) {
                states[i] = new Market();
            }
        }

        void remember(Market market) {
            states[next].copyFrom(market);
            next = (next + 1) % MAX_CHANGES;
            count = Math.min(count + 1, MAX_CHANGES);
        }

        void takeBack(Market market) {
            if (count > 0) {
                next = (next + MAX_CHANGES - 1) % MAX_CHANGES;
                count--;
                market.copyFrom(states[next]);
            }
        }
    }

    /** The words with which a command of a script begins. */
    private enum Verb {
        NOD("nod"),
        WAIT("wait"),
        SPLIT("split"),
        PAY("pay"),
        WITHDRAW("withdraw"),
        BARREL("barrel");

        final String word;

        Verb(String word) {
            this.word = word;
        }
    }

    /** A command with its numbers; a BARREL has its reserve as the first number. */
    private static final class Command {
        Verb verb = Verb.BARREL;
        int first;
        int second;
        final int[] lengths = new int[MAX_EELS];
        int eels;
    }

    /** The input buffer, and the token of it that is to be read next. */
    private static final class InputText {
        static final int END = 0;
        static final int WORD = 1;
        static final int NUMBER = 2;
        static final int SEMICOLON = 3;
        static final int STRANGE = 4;
        // Far above every range, and far enough below the greatest int for one more digit.
        static final int HUGE = 1000000;

        final int[] bytes = new int[MAX_BYTES];
        int size;
        int kind;
        int start;
        int end;
        int value;

        void addFour(int four) {
            for (int shift = 24; shift >= 0; shift -= 8) {
                addByte((four >>> shift) & 255);
            }
        }

        void addSigns(String signs) {
            for (int i = 0; i < signs.length(); i++) {
                addByte(signs.charAt(i));
            }
        }

        void restart() {
            end = 0;
            advance();
        }

        void advance() {
            start = end;
            while (start < size && bytes[start] == ' ') {
                start++;
            }
            end = start;
            kind = kindAt(start);
            value = 0;
            boolean isRun = kind == WORD || kind == NUMBER;
            while (end < size && kindAt(end) == kind && (isRun || end == start)) {
                if (kind == NUMBER) {
                    value = Math.min(value * 10 + (bytes[end] - '0'), HUGE);
                }
                end++;
            }
        }

        boolean isWord(String word) {
            if (kind != WORD || end - start != word.length()) {
                return false;
            }
            for (int i = 0; i < word.length(); i++) {
                if (bytes[start + i] != word.charAt(i)) {
                    return false;
                }
            }
            return true;
        }

        private void addByte(int added) {
            if (size < MAX_BYTES) {
                bytes[size] = added;
                size++;
            }
        }

        private int kindAt(int index) {
            if (index < 0 || index >= size) {
                return END;
            }
            int sign = bytes[index];
            if (sign >= 'a' && sign <= 'z') {
                return WORD;
            }
            if (sign >= '0' && sign <= '9') {
                return NUMBER;
            }
            return sign == ';' ? SEMICOLON : STRANGE;
        }
    }

    /** Reads setups and scripts from the input buffer, up to the first token with an error. */
    private static final class Parser {
        final InputText input = new InputText();
        final Command[] commands = new Command[MAX_COMMANDS];
        final Command barrelLine = new Command();
        int commandCount;
        int number;
        int faultCode;
        int faultPlace = NONE;

        Parser() {
            for (int i = 0; i < MAX_COMMANDS; i++) {
                commands[i] = new Command();
            }
        }

        boolean readSetup(Market into) {
            begin();
            into.beginEmpty();
            return readMarket(into)
                && readBuyers(into)
                && readBarrels(into)
                && (input.kind == InputText.END || fail(SYNTAX));
        }

        boolean readScript(int buyerCount) {
            begin();
            commandCount = 0;
            for (int i = 0; i <= MAX_COMMANDS && input.kind != InputText.END; i++) {
                Verb verb = verbHere();
                if (verb == null) {
                    return fail(SYNTAX);
                }
                if (i == MAX_COMMANDS) {
                    return fail(LIMIT);
                }
                input.advance();
                commands[i].verb = verb;
                if (!readNumbers(commands[i], buyerCount) || !takeSemicolon()) {
                    return false;
                }
                commandCount = i + 1;
            }
            return true;
        }

        private void begin() {
            faultCode = 0;
            faultPlace = NONE;
            input.restart();
        }

        private boolean readMarket(Market into) {
            if (!takeWord("market") || !takeNumber(MIN_PERIOD, MAX_PERIOD)) {
                return false;
            }
            into.tide.period = number;
            if (!takeNumber(1, into.tide.period)) {
                return false;
            }
            into.tide.low = number;
            if (!takeNumber(1, MAX_PATIENCE)) {
                return false;
            }
            into.patience = number;
            if (!takeNumber(1, MAX_STEP)) {
                return false;
            }
            into.step = number;
            if (!takeNumber(0, MAX_FEE)) {
                return false;
            }
            into.fee = number;
            return takeSemicolon();
        }

        private boolean readBuyers(Market into) {
            if (!readBuyer(into)) {
                return false;
            }
            for (int count = 1; count <= MAX_BUYERS && input.isWord("buyer"); count++) {
                if (count == MAX_BUYERS) {
                    return fail(LIMIT);
                }
                if (!readBuyer(into)) {
                    return false;
                }
            }
            return true;
        }

        private boolean readBuyer(Market into) {
            if (!takeWord("buyer") || !takeNumber(0, MAX_FIRST_PURSE)) {
                return false;
            }
            int purse = number;
            if (!takeNumber(0, MAX_STYLE)) {
                return false;
            }
            int style = number;
            if (!takeNumber(1, MAX_FACTOR)) {
                return false;
            }
            into.takeBuyer(purse, style, number);
            return takeSemicolon();
        }

        private boolean readBarrels(Market into) {
            for (int count = 0; count <= MAX_BARRELS && input.isWord("barrel"); count++) {
                if (count == MAX_BARRELS) {
                    return fail(LIMIT);
                }
                input.advance();
                if (!readBarrel(barrelLine) || !takeSemicolon()) {
                    return false;
                }
                into.takeBarrel(barrelLine.first, barrelLine.lengths, 0, barrelLine.eels);
            }
            return true;
        }

        /** Reads what stands behind the word of a BARREL. */
        private boolean readBarrel(Command into) {
            if (!takeNumber(1, MAX_RESERVE)) {
                return false;
            }
            into.first = number;
            for (int count = 0; count <= MAX_EELS && (count == 0 || input.kind == InputText.NUMBER); count++) {
                if (count == MAX_EELS) {
                    // Of several errors of one token the smallest code is told, and RANGE is the smaller one.
                    return fail(isInRange(MIN_LENGTH, MAX_LENGTH) ? LIMIT : RANGE);
                }
                if (!takeNumber(MIN_LENGTH, MAX_LENGTH)) {
                    return false;
                }
                into.lengths[count] = number;
                into.eels = count + 1;
            }
            return true;
        }

        private boolean readNumbers(Command into, int buyerCount) {
            switch (into.verb) {
                case NOD:
                    return takeFirst(into, 0, buyerCount - 1);
                case WAIT:
                    return takeFirst(into, 1, MAX_MINUTES);
                case SPLIT:
                    return takeFirst(into, 0, MAX_BARRELS - 1) && takeSecond(into, 1, MAX_SPLIT);
                case PAY:
                    return takeFirst(into, 0, buyerCount - 1) && takeSecond(into, 1, MAX_COINS);
                case WITHDRAW:
                    return takeFirst(into, 0, MAX_BARRELS - 1);
                default:
                    return readBarrel(into);
            }
        }

        private boolean takeFirst(Command into, int least, int most) {
            boolean taken = takeNumber(least, most);
            into.first = number;
            return taken;
        }

        private boolean takeSecond(Command into, int least, int most) {
            boolean taken = takeNumber(least, most);
            into.second = number;
            return taken;
        }

        private Verb verbHere() {
            for (int i = 0; i < VERBS.length; i++) {
                if (input.isWord(VERBS[i].word)) {
                    return VERBS[i];
                }
            }
            return null;
        }

        private boolean takeWord(String word) {
            if (!input.isWord(word)) {
                return fail(SYNTAX);
            }
            input.advance();
            return true;
        }

        private boolean takeSemicolon() {
            if (input.kind != InputText.SEMICOLON) {
                return fail(SYNTAX);
            }
            input.advance();
            return true;
        }

        private boolean takeNumber(int least, int most) {
            if (input.kind != InputText.NUMBER) {
                return fail(SYNTAX);
            }
            if (!isInRange(least, most)) {
                return fail(RANGE);
            }
            number = input.value;
            input.advance();
            return true;
        }

        private boolean isInRange(int least, int most) {
            return input.value >= least && input.value <= most;
        }

        private boolean fail(int code) {
            faultCode = code;
            faultPlace = input.start;
            return false;
        }
    }
}
