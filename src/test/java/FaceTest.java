import java.lang.reflect.Constructor;
import java.lang.reflect.Field;
import java.lang.reflect.Method;
import java.lang.reflect.Modifier;
import java.util.ArrayList;
import java.util.Collections;
import java.util.List;

/** The public face: just the members of the document, and no private method with the name of a public one. */
final class FaceTest {
    private static final String I = "IndexOutOfBoundsException";
    private static final String A = "IllegalArgumentException";
    private static final String S = "IllegalStateException";
    private static final String N = "NoSuchElementException";

    private FaceTest() {
    }

    public static void main(String[] args) {
        members();
        names(LowWaterAuction.class);
        for (Class<?> inside : LowWaterAuction.class.getDeclaredClasses()) {
            Check.due("inside " + inside, Modifier.isStatic(inside.getModifiers()), true);
            Check.due("inside " + inside, (inside.getModifiers() & (Modifier.PUBLIC | Modifier.PROTECTED)), 0);
            names(inside);
        }
        Check.finish();
    }

    private static void members() {
        Class<?> face = LowWaterAuction.class;
        Check.due("public and final", face.getModifiers(), Modifier.PUBLIC | Modifier.FINAL);
        List<String> found = new ArrayList<>();
        for (Field field : face.getDeclaredFields()) {
            if (!Modifier.isPrivate(field.getModifiers())) {
                found.add(field.toString().replace("LowWaterAuction.", ""));
            }
        }
        for (Constructor<?> constructor : face.getDeclaredConstructors()) {
            found.add(constructor.toString());
        }
        for (Method method : face.getDeclaredMethods()) {
            if (!Modifier.isPrivate(method.getModifiers())) {
                found.add(told(method));
            }
        }
        Collections.sort(found);
        List<String> due = due();
        Collections.sort(due);
        Check.due("the face", String.join("\n", found), String.join("\n", due));
    }

    private static String told(Method method) {
        String told = method.toString().replace("LowWaterAuction.", "");
        return told.replace("java.lang.", "").replace("java.util.", "");
    }

    private static List<String> due() {
        List<String> due = new ArrayList<>();
        for (String name : new String[] {"NONE", "SYNTAX", "RANGE", "LIMIT"}) {
            due.add("public static final int " + name);
        }
        due.add("public LowWaterAuction()");
        add(due, "int append(int,int,int,int,int)", S);
        add(due, "int truncate(int)", A);
        add(due, "int loadSetup()", A);
        add(due, "int runScript()", A);
        add(due, "int nod(int)", I, S);
        add(due, "int passMinutes(int)", A);
        add(due, "int addBarrel(int,int,int)", A, S);
        add(due, "int split(int,int)", I, A, S);
        add(due, "int withdraw(int)", I, S);
        add(due, "int fund(int,int)", I, A);
        add(due, "int setReserve(int,int)", I, A, S);
        add(due, "int setStep(int)", A);
        add(due, "int setTaste(int,int,int)", I, A);
        add(due, "int undo()", N);
        add(due, "void saveSnapshot(int)", A);
        add(due, "int restoreSnapshot(int)", A, N);
        add(due, "boolean isOpen()");
        add(due, "int length(int,int)", I);
        add(due, "float pricePerLength(int)", I);
        add(due, "double worth(int,int)", I);
        add(due, "int costOf(int)", A);
        add(due, "int buyerAfter(int,int)", I, A);
        add(due, "int sellerCoinsAfter(int)", A);
        add(due, "int bestStep(int)", A);
        add(due, "double meanLength()");
        add(due, "float soldShare()");
        add(due, "int queuedBarrel(int)");
        add(due, "int outputByte(int)");
        String plain = "errorCode errorPosition minute minutesToHorn step sellerCoins houseCoins openBarrel bid leader"
            + " nextBid quiet queueLength barrelCount buyerCount nextNodder coinError writeQueue";
        for (String name : plain.split(" ")) {
            add(due, "int " + name + "()");
        }
        String indexed = "eels totalLength greatestLength middleLength reserve stateOf returns buyerOf priceOf purse style"
            + " factor bought nods whyNotNod keenestBuyer minutesToSale writeBarrel";
        for (String name : indexed.split(" ")) {
            add(due, "int " + name + "(int)", I);
        }
        return due;
    }

    private static void add(List<String> due, String method, String... thrown) {
        due.add("public " + method + (thrown.length == 0 ? "" : " throws " + String.join(",", thrown)));
    }

    private static void names(Class<?> type) {
        for (Method inside : type.getDeclaredMethods()) {
            for (Method method : LowWaterAuction.class.getDeclaredMethods()) {
                boolean isFace = Modifier.isPublic(method.getModifiers());
                boolean isOther = !inside.equals(method) && !Modifier.isPublic(inside.getModifiers());
                Check.due(inside + " bears the name of " + method,
                    isFace && isOther && inside.getName().equals(method.getName()), false);
            }
        }
    }
}
