import java.lang.reflect.InvocationTargetException;
import java.lang.reflect.Method;
import java.lang.reflect.Modifier;
import java.util.Arrays;
import java.util.Comparator;
import java.util.List;
import java.util.Random;

/**
 * Long runs of calls with any arguments: no call throws what the document does not name for it, what throws and what
 * only asks changes nothing, no coin is lost, and a forecast comes true.
 */
final class WildTest {
    private static final int RUNS = 500;
    // An object is promised for 512 calls, of which the look at its state in the end takes up to a hundred.
    private static final int CALLS = 400;
    private static final int[] WILD = {Integer.MIN_VALUE, -1, 0, 1, 2, 3, 5, 6, 9, 10, 19, 20, 50, 51, 150, 200,
        201, 500, 501, 999, 1000, 9999, 10000, Integer.MAX_VALUE};
    private static final String[] SCRAPS = {"market 9 5 2 3 7;", "buyer 500 1 90;", "buyer 80 2 80;", "barrel 9 70 20;",
        "nod 0;", "nod 1;", "wait 3;", "split 0 1;", "pay 0 20;", "withdraw 2;", "wait", "barrel", " ", "7", ";", "#"};
    private static final List<String> CHANGING = List.of("append", "truncate", "loadSetup", "runScript", "nod", "passMinutes",
        "addBarrel", "split", "withdraw", "fund", "setReserve", "setStep", "setTaste", "undo", "saveSnapshot",
        "restoreSnapshot", "writeBarrel", "writeQueue");

    private final Random random;
    private final Method[] methods;
    private LowWaterAuction auction;
    /** It gets only the calls that change something and return normally, and must be in the same state in the end. */
    private LowWaterAuction twin;
    private int calls;

    private WildTest(long seed) {
        random = new Random(seed);
        methods = Arrays.stream(LowWaterAuction.class.getDeclaredMethods())
            .filter(method -> Modifier.isPublic(method.getModifiers()))
            .sorted(Comparator.comparing(Method::getName))
            .toArray(Method[]::new);
    }

    public static void main(String[] args) throws ReflectiveOperationException {
        for (int run = 0; run < RUNS; run++) {
            new WildTest(run).run();
        }
        Check.finish();
    }

    private void run() throws ReflectiveOperationException {
        auction = new LowWaterAuction();
        twin = new LowWaterAuction();
        while (calls < CALLS) {
            int kind = random.nextInt(20);
            if (kind == 0) {
                feed(text());
            } else if (kind < 4) {
                foreseen(1 + random.nextInt(12));
            } else {
                call(methods[random.nextInt(methods.length)]);
            }
        }
        Check.due("what was refused or only asked changes nothing", lastState(auction), lastState(twin));
    }

    private void feed(String text) {
        Auctions.feed(auction, text);
        Auctions.feed(twin, text);
        calls += 3 + text.length() / 20;
    }

    private void call(Method method) throws ReflectiveOperationException {
        Object[] arguments = new Object[method.getParameterCount()];
        for (int i = 0; i < arguments.length; i++) {
            arguments[i] = random.nextInt(3) == 0 ? WILD[random.nextInt(WILD.length)] : random.nextInt(4);
        }
        String what = method.getName() + Arrays.toString(arguments);
        try {
            method.invoke(auction, arguments);
            if (CHANGING.contains(method.getName())) {
                method.invoke(twin, arguments);
            }
        } catch (InvocationTargetException thrown) {
            Class<?> kind = thrown.getCause().getClass();
            Check.due(what + " may throw " + kind, Arrays.asList(method.getExceptionTypes()).contains(kind), true);
            if (method.getName().equals("loadSetup") || method.getName().equals("runScript")) {
                twin.truncate(0);
            }
        }
        Check.due("60 after " + what, auction.coinError(), 0);
        calls += 2;
    }

    private void foreseen(int minutes) {
        int coins = auction.sellerCoinsAfter(minutes);
        int barrel = auction.barrelCount() - 1;
        int buyer = barrel < 0 ? 0 : auction.buyerAfter(barrel, minutes);
        int sale = barrel < 0 ? 0 : auction.minutesToSale(barrel);
        auction.passMinutes(minutes);
        twin.passMinutes(minutes);
        Check.due("58 came true", auction.sellerCoins(), coins);
        if (barrel >= 0) {
            Check.due("57 came true", auction.buyerOf(barrel), buyer);
            Check.due("56 came true", auction.stateOf(barrel) == 2, sale >= 0 && sale <= minutes);
        }
        calls += 8;
    }

    private static String lastState(LowWaterAuction x) {
        StringBuilder text = new StringBuilder(Auctions.outline(x));
        int buyers = x.buyerCount();
        for (int i = 0; i < buyers; i++) {
            text.append(' ').append(x.purse(i));
        }
        int barrels = x.barrelCount();
        for (int i = 0; i < barrels; i++) {
            text.append(' ').append(x.totalLength(i)).append(' ').append(x.stateOf(i));
        }
        return text.append(' ').append(Edges.nextLength(x)).append(' ').append(Edges.changes(x)).toString();
    }

    private String text() {
        StringBuilder text = new StringBuilder();
        if (random.nextBoolean()) {
            text.append(SCRAPS[0]).append(SCRAPS[1]);
        }
        int scraps = random.nextInt(12);
        for (int i = 0; i < scraps; i++) {
            text.append(SCRAPS[1 + random.nextInt(random.nextInt(4) == 0 ? SCRAPS.length - 1 : 9)]);
        }
        return text.toString();
    }
}
