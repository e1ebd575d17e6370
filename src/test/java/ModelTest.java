import java.lang.reflect.InvocationTargetException;
import java.lang.reflect.Method;
import java.lang.reflect.Modifier;
import java.nio.charset.StandardCharsets;
import java.util.ArrayList;
import java.util.Arrays;
import java.util.LinkedHashMap;
import java.util.List;
import java.util.Map;
import java.util.Random;

/**
 * The same calls on a LowWaterAuction and on a Model must have the same answers, exceptions included. With two numbers
 * as arguments (the first run and the number of runs) it compares other runs than .ci/run does.
 */
final class ModelTest {
    private static final int RUNS = 400;
    private static final int CALLS = 512;

    /** What may stand for each argument: the letters are told in value. */
    private static final String[] ASKING = {"errorCode", "errorPosition", "minute", "isOpen", "minutesToHorn", "step",
        "sellerCoins", "houseCoins", "openBarrel", "bid", "leader", "nextBid", "quiet", "queueLength", "queuedBarrel q",
        "barrelCount", "eels b", "length b l", "totalLength b", "greatestLength b", "middleLength b", "reserve b", "stateOf b",
        "returns b", "buyerOf b", "priceOf b", "pricePerLength b", "buyerCount", "purse u", "style u", "factor u", "bought u",
        "nods u", "worth u b", "whyNotNod u", "costOf p", "nextNodder", "keenestBuyer b", "minutesToSale b",
        "buyerAfter b m", "sellerCoinsAfter m", "bestStep m", "coinError", "meanLength", "soldShare", "outputByte o"};
    private static final String[] CHANGING = {"nod u", "nod u", "passMinutes w", "passMinutes w", "passMinutes w",
        "addBarrel r e i", "addBarrel r e i", "split b e", "split b e", "withdraw b", "fund u c", "fund u c", "setReserve b r",
        "setStep t", "setTaste u y f", "undo", "undo", "saveSnapshot s", "restoreSnapshot s", "writeBarrel b", "writeQueue",
        "loadSetup", "runScript", "truncate n"};
    private static final int[] WILD = {Integer.MIN_VALUE, Integer.MIN_VALUE + 1, -500, -2, -1, 0, 1, 2, 4, 5, 6, 8, 9, 10, 11,
        19, 20, 21, 50, 51, 59, 60, 149, 150, 151, 199, 200, 201, 480, 481, 499, 500, 501, 998, 999, 1000, 9998, 9999, 10000,
        99999, 100000, 65536, 1 << 24, Integer.MAX_VALUE - 1, Integer.MAX_VALUE};

    private static final String SIGNS = " ;az09.\0\n\u00e9A`{/:";
    private static final String DIGITS = "0".repeat(20) + "9".repeat(20);

    private static final Map<String, Method[]> METHODS = methods();

    private final Random random;
    private final LowWaterAuction auction = new LowWaterAuction();
    private final Model model = new Model();
    private final List<String> told = new ArrayList<>();
    private int calls;
    private boolean differs;

    private ModelTest(long seed) {
        // The first choices of neighbouring seeds would be nearly the same.
        random = new Random(seed * 0x9E3779B97F4A7C15L);
    }

    public static void main(String[] args) throws ReflectiveOperationException {
        int first = args.length == 2 ? Integer.parseInt(args[0]) : 0;
        int runs = args.length == 2 ? Integer.parseInt(args[1]) : RUNS;
        long calls = 0;
        for (int run = first; run < first + runs; run++) {
            ModelTest test = new ModelTest(run);
            Check.about("run " + run + ": ");
            test.run();
            calls += test.calls;
        }
        if (args.length == 2) {
            System.out.println(calls + " calls compared");
        }
        Check.finish();
    }

    private static Map<String, Method[]> methods() {
        Map<String, Method[]> methods = new LinkedHashMap<>();
        for (Method method : LowWaterAuction.class.getDeclaredMethods()) {
            if (Modifier.isPublic(method.getModifiers())) {
                try {
                    methods.put(method.getName(), new Method[] {method,
                        Model.class.getDeclaredMethod(method.getName(), method.getParameterTypes())});
                } catch (NoSuchMethodException missing) {
                    throw new IllegalStateException(missing);
                }
            }
        }
        return methods;
    }

    private void run() throws ReflectiveOperationException {
        if (random.nextInt(4) > 0) {
            read("loadSetup", setup());
        } else {
            untouched();
        }
        while (calls < CALLS && !differs) {
            int kind = random.nextInt(100);
            if (kind < 60) {
                any(ASKING);
            } else if (kind < 93) {
                any(CHANGING);
            } else if (kind < 97) {
                read("runScript", random.nextInt(3) == 0 ? damaged(script()) : script());
            } else if (kind < 98) {
                read("loadSetup", random.nextInt(2) == 0 ? damaged(setup()) : setup());
            } else if (random.nextInt(4) == 0) {
                filled();
            } else {
                written();
            }
        }
    }

    /** What no other call has touched yet. */
    private void untouched() throws ReflectiveOperationException {
        compare("errorCode");
        compare("errorPosition");
        compare("outputByte", 0);
        compare("truncate", random.nextInt(2));
        compare("restoreSnapshot", random.nextInt(2));
        compare("undo");
    }

    /** The input buffer, up to its last bytes, or a purse. */
    private void filled() throws ReflectiveOperationException {
        boolean isPurse = random.nextBoolean();
        int buyer = random.nextInt(model.buyerCount());
        int cut = 20 * between(1, 2) + between(-1, 1);
        for (int times = 0; times < 26; times++) {
            if (isPurse) {
                compare("fund", buyer, between(4000, 9999));
            } else {
                compare("append", WILD[random.nextInt(WILD.length)], 0, -1, 1 << 31, times);
            }
        }
        if (!isPurse) {
            compare("truncate", 500 - cut);
            compare("append", 0, 0, 0, 0, 0);
            compare("append", 0, 0, 0, 0, 0);
        }
    }

    private void any(String[] calling) throws ReflectiveOperationException {
        String[] words = calling[random.nextInt(calling.length)].split(" ");
        Object[] arguments = new Object[words.length - 1];
        for (int i = 0; i < arguments.length; i++) {
            arguments[i] = random.nextInt(12) == 0 ? WILD[random.nextInt(WILD.length)] : value(words[i + 1].charAt(0));
        }
        compare(words[0], arguments);
    }

    private int value(char letter) {
        switch (letter) {
            case 'b':
                return random.nextInt(model.barrelCount() + 1) - random.nextInt(2) * random.nextInt(2);
            case 'u':
                return random.nextInt(model.buyerCount() + 1) - random.nextInt(2) * random.nextInt(2);
            case 'q':
                return random.nextInt(model.queueLength() + 2) - 1;
            case 'l':
            case 'e':
                return random.nextInt(random.nextInt(2) == 0 ? 4 : 11);
            case 'o':
                return random.nextInt(40) - 1;
            case 'p':
                return random.nextInt(10000);
            case 'm':
                return random.nextInt(random.nextInt(10) == 0 ? 502 : 60);
            case 'w':
                return random.nextInt(random.nextInt(6) == 0 ? 202 : 7);
            case 'r':
                return random.nextInt(random.nextInt(3) == 0 ? 1001 : 40);
            case 'i':
                return between(9, 151);
            case 'c':
                return random.nextInt(random.nextInt(3) == 0 ? 10001 : 300);
            case 't':
                return random.nextInt(52);
            case 'y':
                return between(-1, 5);
            case 'f':
                return random.nextInt(random.nextInt(3) == 0 ? 1001 : 100);
            case 's':
                return random.nextInt(9) / 4;
            default:
                return random.nextInt(30);
        }
    }

    private void compare(String name, Object... arguments) throws ReflectiveOperationException {
        Method[] pair = METHODS.get(name);
        if (calls >= CALLS || differs) {
            return;
        }
        calls++;
        told.add(name + Arrays.toString(arguments));
        Object want = answer(pair[1], model, arguments);
        Object got = answer(pair[0], auction, arguments);
        differs = !want.equals(got);
        Check.due("after " + told.size() + " calls " + (differs ? told : ""), got, want);
    }

    private static Object answer(Method method, Object on, Object[] arguments) throws ReflectiveOperationException {
        try {
            Object answer = method.invoke(on, arguments);
            return answer == null ? "nothing" : answer;
        } catch (InvocationTargetException thrown) {
            return thrown.getCause().getClass();
        }
    }

    // ---- texts

    private void read(String name, String text) throws ReflectiveOperationException {
        String kept = text.length() > 500 ? text.substring(0, 500) : text;
        byte[] bytes = Arrays.copyOf(kept.getBytes(StandardCharsets.ISO_8859_1), (kept.length() + 19) / 20 * 20);
        compare("truncate", 0);
        for (int from = 0; from < bytes.length; from += 20) {
            Object[] fours = new Object[5];
            for (int i = 0; i < 5; i++) {
                int at = from + 4 * i;
                fours[i] = bytes[at] << 24 | (bytes[at + 1] & 255) << 16 | (bytes[at + 2] & 255) << 8 | bytes[at + 3] & 255;
            }
            compare("append", fours);
        }
        compare("truncate", kept.length());
        compare(name);
        compare("errorCode");
        compare("errorPosition");
    }

    /** The output text, whole. */
    private void written() throws ReflectiveOperationException {
        if (random.nextInt(3) == 0 || model.barrelCount() == 0) {
            compare("writeQueue");
        } else {
            compare("writeBarrel", random.nextInt(model.barrelCount()));
        }
        int index = 0;
        while (model.outputByte(index) != LowWaterAuction.NONE) {
            compare("outputByte", index);
            index++;
        }
        compare("outputByte", index);
    }

    private int between(int least, int most) {
        return least + random.nextInt(most - least + 1);
    }

    private void add(StringBuilder text, int... numbers) {
        for (int number : numbers) {
            text.append(text.length() > 0 && Character.isLetter(text.charAt(text.length() - 1)) && random.nextInt(3) == 0 ? "" : " ");
            text.append(random.nextInt(20) == 0 ? "00" : "").append(number);
        }
    }

    private void end(StringBuilder text) {
        text.append(random.nextInt(10) == 0 ? " " : "").append(';').append(random.nextInt(3) == 0 ? "  " : "");
    }

    private void addBarrel(StringBuilder text) {
        text.append("barrel");
        add(text, random.nextInt(4) == 0 ? between(1, 999) : between(1, 60));
        int eels = random.nextInt(4) > 0 ? between(1, 3) : random.nextInt(8) > 0 ? between(1, 9) : 10;
        for (int i = 0; i < eels; i++) {
            add(text, i == 9 ? between(5, 15) : random.nextInt(3) == 0 ? between(58, 61) : between(10, 150));
        }
        end(text);
    }

    private String setup() {
        StringBuilder text = new StringBuilder(random.nextInt(5) == 0 ? "  market" : "market");
        int period = random.nextInt(2) == 0 ? between(5, 60) : between(5, 14);
        add(text, period, random.nextInt(6) == 0 ? period : between(1, period), between(1, random.nextInt(2) == 0 ? 9 : 3),
            between(1, random.nextInt(3) == 0 ? 50 : 9), random.nextInt(4) == 0 ? 0 : between(0, 50));
        end(text);
        int buyers = random.nextInt(20) == 0 ? 7 : between(1, 6);
        for (int i = 0; i < buyers; i++) {
            text.append("buyer");
            add(text, random.nextInt(2) == 0 ? between(0, 9999) : between(0, 300), between(0, 4),
                random.nextInt(3) == 0 ? between(1, 999) : between(1, 90));
            end(text);
        }
        if (random.nextInt(8) == 0) {
            // No more than 21 of them have room in the buffer, if they are short.
            return text.append("barrel9 60;".repeat(between(18, 21))).toString();
        }
        int barrels = random.nextInt(4) == 0 ? between(0, 20) : between(0, 6);
        for (int i = 0; i < barrels; i++) {
            addBarrel(text);
        }
        return text.toString();
    }

    private String script() {
        StringBuilder text = new StringBuilder();
        if (random.nextInt(8) == 0) {
            return text.append("wait1;".repeat(between(18, 20))).append(random.nextBoolean() ? "" : "pay 0 7;wait").toString();
        }
        int commands = random.nextInt(5) == 0 ? between(0, 21) : between(0, 6);
        for (int i = 0; i < commands; i++) {
            addCommand(text);
        }
        return text.toString();
    }

    private void addCommand(StringBuilder text) {
        boolean isNear = random.nextInt(12) == 0;
        int buyer = random.nextInt(model.buyerCount() + (isNear ? 3 : 0));
        int barrel = isNear ? between(18, 22) : random.nextInt(Math.min(20, model.barrelCount() + 1));
        switch (random.nextInt(7)) {
            case 0:
                add(text.append("nod"), buyer);
                break;
            case 1:
                add(text.append("split"), barrel, random.nextInt(3) == 0 ? between(1, 8) : 1);
                break;
            case 2:
                add(text.append("pay"), buyer, random.nextInt(2) == 0 ? between(1, 9999) : between(1, 99));
                break;
            case 3:
                add(text.append("withdraw"), barrel);
                break;
            case 4:
                addBarrel(text);
                return;
            default:
                add(text.append("wait"), random.nextInt(4) == 0 ? between(1, 200) : between(1, 5));
                break;
        }
        end(text);
    }

    /** The text with one or two small changes, most of which are errors. */
    private String damaged(String text) {
        StringBuilder damaged = new StringBuilder(text);
        for (int times = between(1, 2); times > 0 && damaged.length() > 0; times--) {
            int at = random.nextInt(damaged.length());
            switch (random.nextInt(7)) {
                case 0:
                    damaged.deleteCharAt(at);
                    break;
                case 1:
                    damaged.setCharAt(at, (char) random.nextInt(256));
                    break;
                case 2:
                    damaged.insert(at, SIGNS.charAt(random.nextInt(SIGNS.length())));
                    break;
                case 3:
                    damaged.setLength(at);
                    break;
                case 4:
                    damaged.insert(at, " " + WILD[random.nextInt(WILD.length)] + " ");
                    break;
                case 5:
                    int from = damaged.lastIndexOf(";", at) + 1;
                    int to = damaged.indexOf(";", at) + 1;
                    damaged.insert(from, damaged.substring(from, Math.max(from, to)).repeat(between(1, 8)));
                    break;
                default:
                    damaged.insert(at, DIGITS.substring(random.nextInt(DIGITS.length())));
                    break;
            }
        }
        return damaged.toString();
    }
}
