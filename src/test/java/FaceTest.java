import java.io.IOException;
import java.lang.reflect.Constructor;
import java.lang.reflect.Field;
import java.lang.reflect.Method;
import java.lang.reflect.Modifier;
import java.nio.file.Files;
import java.nio.file.Path;
import java.util.TreeSet;

/** The public face is the document's, and nothing else of the class can be seen from outside. */
public final class FaceTest {
    private static final String INDEX = "IndexOutOfBoundsException";
    private static final String ARGUMENT = "IllegalArgumentException";
    private static final String STATE = "IllegalStateException";

    /** As the document writes it; the heads stand where it says that the interface has them. */
    private static final String[] WRITTEN = {
        "public final class TollGateway {",
        "public static final int LET_THROUGH = 0, NO_TOKENS = 1, NO_CREDIT = 2;",
        "public TollGateway()",
        "// ---- plans, routes, keys",
        "public void setPlan(int plan, int size, int refill, int slow) throws IllegalArgumentException",
        "public void setRoute(int route, int price, int weight) throws IllegalArgumentException",
        "public int addKey(int plan) throws IllegalArgumentException, IllegalStateException",
        "public int setKeyPlan(int key, int plan) throws IndexOutOfBoundsException, IllegalArgumentException",
        "public int setTrust(int key, int line) throws IndexOutOfBoundsException, IllegalArgumentException",
        "public int pay(int key, int money) throws IndexOutOfBoundsException, IllegalArgumentException",
        "// ---- calls",
        "public int call(int key, int route, int size)"
            + " throws IndexOutOfBoundsException, IllegalArgumentException, IllegalStateException",
        "public int end(int call, int outcome)"
            + " throws IndexOutOfBoundsException, IllegalArgumentException, IllegalStateException",
        "public int dispute(int call) throws IndexOutOfBoundsException, IllegalStateException",
        "public int pass(int ticks) throws IllegalArgumentException",
        "public int now()",
        "public int calls()",
        "// ---- what there is",
        "public int credit(int key) throws IndexOutOfBoundsException",
        "public int debt(int key) throws IndexOutOfBoundsException",
        "public int held(int key) throws IndexOutOfBoundsException",
        "public int tokens(int key) throws IndexOutOfBoundsException",
        "public boolean isSlowed(int key) throws IndexOutOfBoundsException",
        "public int cost(int call) throws IndexOutOfBoundsException",
        "public int spent(int key) throws IndexOutOfBoundsException",
        "public int paid(int key) throws IndexOutOfBoundsException"
    };

    public static void main(String[] args) throws IOException {
        constants();
        constructor();
        methods();
        Expect.answer("the class is public and final",
            TollGateway.class.getModifiers() & (Modifier.PUBLIC | Modifier.FINAL), Modifier.PUBLIC | Modifier.FINAL);
        written();
        Expect.finish();
    }

    private static void constants() {
        Expect.answer("LET_THROUGH", TollGateway.LET_THROUGH, 0);
        Expect.answer("NO_TOKENS", TollGateway.NO_TOKENS, 1);
        Expect.answer("NO_CREDIT", TollGateway.NO_CREDIT, 2);
        TreeSet<String> got = new TreeSet<>();
        for (Field field : TollGateway.class.getDeclaredFields()) {
            if (!Modifier.isPrivate(field.getModifiers())) {
                got.add(field.toString());
            }
        }
        String kind = "public static final int TollGateway.";
        Expect.answer("the constants", got.toString(),
            "[" + kind + "LET_THROUGH, " + kind + "NO_CREDIT, " + kind + "NO_TOKENS]");
    }

    private static void constructor() {
        Constructor<?>[] got = TollGateway.class.getDeclaredConstructors();
        Expect.answer("the number of constructors", got.length, 1);
        Expect.answer("the constructor", got[0].toString(), "public TollGateway()");
    }

    private static void methods() {
        TreeSet<String> due = new TreeSet<>();
        due.add(face("void", "setPlan", 4, ARGUMENT));
        due.add(face("void", "setRoute", 3, ARGUMENT));
        due.add(face("int", "addKey", 1, ARGUMENT, STATE));
        due.add(face("int", "setKeyPlan", 2, INDEX, ARGUMENT));
        due.add(face("int", "setTrust", 2, INDEX, ARGUMENT));
        due.add(face("int", "pay", 2, INDEX, ARGUMENT));
        due.add(face("int", "call", 3, INDEX, ARGUMENT, STATE));
        due.add(face("int", "end", 2, INDEX, ARGUMENT, STATE));
        due.add(face("int", "dispute", 1, INDEX, STATE));
        due.add(face("int", "pass", 1, ARGUMENT));
        due.add(face("int", "now", 0));
        due.add(face("int", "calls", 0));
        due.add(face("int", "credit", 1, INDEX));
        due.add(face("int", "debt", 1, INDEX));
        due.add(face("int", "held", 1, INDEX));
        due.add(face("int", "tokens", 1, INDEX));
        due.add(face("boolean", "isSlowed", 1, INDEX));
        due.add(face("int", "cost", 1, INDEX));
        due.add(face("int", "spent", 1, INDEX));
        due.add(face("int", "paid", 1, INDEX));
        TreeSet<String> got = new TreeSet<>();
        for (Method method : TollGateway.class.getDeclaredMethods()) {
            if (!Modifier.isPrivate(method.getModifiers())) {
                got.add(method.toString());
            }
        }
        Expect.answer("the methods", got.toString(), due.toString());
    }

    // What is compiled keeps neither the heads nor the parameters' names, so the source is looked at.
    private static void written() throws IOException {
        String source = Files.readString(Path.of("src/main/java/TollGateway.java")).replaceAll("\\s+", " ");
        int from = 0;
        for (String line : WRITTEN) {
            int found = source.indexOf(line, from);
            Expect.answer("the source has, in the document's order, " + line, found >= 0, true);
            from = Math.max(from, found);
        }
    }

    private static String face(String answer, String name, int parameters, String... exceptions) {
        StringBuilder text = new StringBuilder("public " + answer + " TollGateway." + name + "(");
        for (int i = 0; i < parameters; i++) {
            text.append(i == 0 ? "int" : ",int");
        }
        text.append(")");
        for (int i = 0; i < exceptions.length; i++) {
            text.append(i == 0 ? " throws java.lang." : ",java.lang.").append(exceptions[i]);
        }
        return text.toString();
    }
}
