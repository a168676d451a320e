import java.lang.reflect.InvocationTargetException;
import java.lang.reflect.Method;
import java.util.ArrayList;
import java.util.Comparator;
import java.util.List;
import java.util.Random;

/** No call throws, whatever its arguments, in a new object, in a full one, and in all between. */
public final class WildTest {
    private static final int[] EDGES = {0, 1, -1, -2, 7, 8, 11, 12, 23, 24, 59, 60, 99, 100, 199, 200, 299, 300, 400,
        2879, 2880, Integer.MAX_VALUE, Integer.MIN_VALUE, Integer.MAX_VALUE - 1, Integer.MIN_VALUE + 1, 1 << 16};

    private final Check check;
    private final Random random;
    private final List<Method> methods = new ArrayList<>();

    private WildTest(Check check, int seed) {
        this.check = check;
        random = new Random(seed);
        for (Method method : WhoCommands.class.getDeclaredMethods()) {
            if (java.lang.reflect.Modifier.isPublic(method.getModifiers())) {
                methods.add(method);
            }
        }
        methods.sort(Comparator.comparing(Method::getName));
    }

    private int wildNumber() {
        switch (random.nextInt(4)) {
            case 0: return random.nextInt();
            case 1: return EDGES[random.nextInt(EDGES.length)];
            default: return random.nextInt(12);
        }
    }

    private void call(WhoCommands x, Method method) throws IllegalAccessException {
        Object[] arguments = new Object[method.getParameterCount()];
        for (int i = 0; i < arguments.length; i++) {
            boolean isBoolean = method.getParameterTypes()[i] == boolean.class;
            arguments[i] = isBoolean ? (Object) random.nextBoolean() : (Object) wildNumber();
        }
        boolean threw = false;
        try {
            method.invoke(x, arguments);
        } catch (InvocationTargetException e) {
            threw = true;
            System.out.println(e.getCause());
        }
        check.due(method.getName() + java.util.Arrays.toString(arguments) + " threw", threw, false);
    }

    private WhoCommands full() {
        WhoCommands x = new WhoCommands();
        LawTexts texts = new LawTexts(random);
        for (int n = 0; n < 12; n++) {
            x.body(n - 1 - n % 2, n % 4, random.nextInt(100), random.nextInt(100));
        }
        for (int n = 0; n < 24; n++) {
            x.person(random.nextInt(10), random.nextInt(10000), n % 4, n % 12, n % 10);
            x.paper(random.nextInt(n + 1), n % 12, n, 2879 - n);
        }
        for (int n = 0; n < 200; n++) {
            x.step(n % 24, random.nextInt(2880), random.nextInt(100), random.nextInt(100));
            x.message(n % 2 == 0, n % 24, random.nextInt(24), random.nextInt(2881) - 1);
            x.list(n % 12, random.nextInt(24));
        }
        for (int n = 0; n < 40 && x.count(5) < 8; n++) {
            Check.law(x, texts.some());
        }
        for (int n = 0; n < 12; n++) {
            x.rules(n, n % 8);
            x.falls(n, random.nextInt(2880));
        }
        for (int n = 0; n < 60; n++) {
            x.order(n % 24, n % 12, n % 10, n, n + 1, n + 2000);
        }
        for (int k = 0; k < 4; k++) {
            x.mark(k);
        }
        x.feed(1, 2, 3, 4, 5);
        return x;
    }

    private void go() throws IllegalAccessException {
        WhoCommands x = random.nextBoolean() ? full() : new WhoCommands();
        for (int n = 0; n < 512; n++) {
            call(x, methods.get(random.nextInt(methods.size())));
        }
    }

    public static void main(String[] args) throws IllegalAccessException {
        Check check = new Check();
        for (int seed = 0; seed < 60; seed++) {
            new WildTest(check, seed).go();
        }
        check.end("WildTest");
    }
}
