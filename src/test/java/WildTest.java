import java.lang.reflect.InvocationTargetException;
import java.lang.reflect.Method;
import java.lang.reflect.Modifier;
import java.util.Arrays;
import java.util.Comparator;
import java.util.Random;

/**
 * Long runs of calls with any arguments: no call throws what the document does not name for it, what throws
 * leaves the state, no coin is lost, and a forecast comes true.
 */
final class WildTest {
    private static final int RUNS = 150;
    private static final int CALLS = 512;
    private static final int[] WILD = {Integer.MIN_VALUE, -1, 0, 1, 2, 3, 5, 6, 9, 10, 19, 20, 50, 51, 150, 200,
        201, 500, 501, 999, 1000, 9999, 10000, Integer.MAX_VALUE};
    private static final String[] SCRAPS = {"market 9 5 2 3 7;", "buyer 500 1 90;", "buyer 80 2 80;", "barrel 9 70 20;",
        "nod 0;", "nod 1;", "wait 3;", "split 0 1;", "pay 0 20;", "withdraw 2;", "wait", "barrel", " ", "7", ";", "#"};

    private final Random random;
    private final Method[] methods;
    private LowWaterAuction auction;

    private WildTest(long seed) {
        random = new Random(seed);
        methods = Arrays.stream(LowWaterAuction.class.getDeclaredMethods())
            .filter(method -> Modifier.isPublic(method.getModifiers()))
            .sorted(Comparator.comparing(Method::getName))
            .toArray(Method[]::new);
    }

    public static void main(String[] args) throws IllegalAccessException {
        for (int run = 0; run < RUNS; run++) {
            new WildTest(run).run();
        }
        Check.finish();
    }

    private void run() throws IllegalAccessException {
        auction = new LowWaterAuction();
        for (int i = 0; i < CALLS; i++) {
            int kind = random.nextInt(20);
            if (kind == 0) {
                Auctions.feed(auction, text());
            } else if (kind < 4) {
                foreseen(1 + random.nextInt(12));
            } else {
                call(methods[random.nextInt(methods.length)]);
            }
        }
    }

    private void call(Method method) throws IllegalAccessException {
        Object[] arguments = new Object[method.getParameterCount()];
        for (int i = 0; i < arguments.length; i++) {
            arguments[i] = random.nextInt(3) == 0 ? WILD[random.nextInt(WILD.length)] : random.nextInt(4);
        }
        String what = method.getName() + Arrays.toString(arguments);
        String before = Auctions.state(auction);
        try {
            method.invoke(auction, arguments);
        } catch (InvocationTargetException thrown) {
            Class<?> kind = thrown.getCause().getClass();
            Check.due(what + " may throw " + kind, Arrays.asList(method.getExceptionTypes()).contains(kind), true);
            Check.due(what + " leaves the state", Auctions.state(auction), before);
        }
        Check.due("60 after " + what, auction.coinError(), 0);
    }

    private void foreseen(int minutes) {
        int coins = auction.sellerCoinsAfter(minutes);
        int barrel = auction.barrelCount() - 1;
        int buyer = barrel < 0 ? 0 : auction.buyerAfter(barrel, minutes);
        int sale = barrel < 0 ? 0 : auction.minutesToSale(barrel);
        auction.passMinutes(minutes);
        Check.due("58 came true", auction.sellerCoins(), coins);
        if (barrel >= 0) {
            Check.due("57 came true", auction.buyerOf(barrel), buyer);
            Check.due("56 came true", auction.stateOf(barrel) == 2, sale >= 0 && sale <= minutes);
        }
    }

    private String text() {
        StringBuilder text = new StringBuilder();
        if (random.nextBoolean()) {
            text.append(SCRAPS[0]).append(SCRAPS[1]);
        }
        int scraps = random.nextInt(12);
        for (int i = 0; i < scraps; i++) {
            text.append(SCRAPS[1 + random.nextInt(random.nextInt(4) == 0 ? SCRAPS.length - 1 : 9)]);
        }
        return text.toString();
    }
}
