import java.lang.reflect.InvocationTargetException;
import java.lang.reflect.Method;
import java.lang.reflect.Modifier;
import java.util.ArrayList;
import java.util.Comparator;
import java.util.List;

/** Many runs of up to 512 calls, the same on the class and on Model; each answer and exact exception must agree. */
public final class ModelTest {
    private static final int RUNS = 1500;
    private static final int CALLS = 512;
    private static final int[] NUMBERS = {0, -1, 31, 50, 51, 99, 100, 10, 9, 5, 60, Integer.MIN_VALUE,
        Integer.MAX_VALUE};
    private static final char[] CHARACTERS = {'x', 'G', ' ', 'n', (char) 0, (char) 31, (char) 126, (char) 127,
        (char) 65535};
    private static final String[] WORDS = {"vault ", "put ", "take ", "swap ", "mint ", "melt ", "audit ", "rate ",
        "stick ", "day"};
    private static final List<String> CHANGES = List.of("deposit", "withdraw", "exchange", "mint", "redeem", "audit",
        "setRate", "setStickiness", "passDays", "deposit", "exchange", "mint", "audit", "addVault", "deposit");

    private final List<Method> methods = new ArrayList<>();
    private long seed;
    private int calls;
    private FlyTreasury real;
    private Model model;
    private final List<String> told = new ArrayList<>();
    private boolean agrees = true;

    private ModelTest(long seed) {
        this.seed = seed;
        for (Method method : FlyTreasury.class.getDeclaredMethods()) {
            if (Modifier.isPublic(method.getModifiers())) {
                methods.add(method);
            }
        }
        methods.sort(Comparator.comparing(Method::getName));
    }

    public static void main(String[] args) {
        ModelTest test = new ModelTest(20261119);
        for (int run = 0; run < RUNS && test.agrees; run++) {
            test.run();
        }
        Check.finish();
    }

    private int below(int bound) {
        seed = seed * 6364136223846793005L + 1442695040888963407L;
        return (int) ((seed >>> 33) % bound);
    }

    private void run() {
        real = new FlyTreasury();
        model = new Model();
        told.clear();
        calls = 0;
        int vaults = below(6);
        for (int i = 0; i < vaults; i++) {
            call("addVault");
        }
        while (calls < CALLS && agrees) {
            int choice = below(100);
            if (choice < 50) {
                call(CHANGES.get(below(CHANGES.size())));
            } else if (choice < 56) {
                runScript();
            } else {
                call(methods.get(below(methods.size())).getName());
            }
        }
    }

    private void runScript() {
        String text = script();
        for (int i = 0; i < text.length() && calls < CALLS; i++) {
            call("type", 0, text.charAt(i), 'x', 0);
        }
        call("runScript");
        call("errorPosition");
        call("failedCommand");
    }

    private String script() {
        StringBuilder text = new StringBuilder();
        int commands = 1 + below(5);
        for (int i = 0; i < commands; i++) {
            text.append(i == 0 ? "" : ";").append(command());
        }
        int spoilt = below(6);
        if (spoilt == 0) {
            text.setLength(below(text.length() + 1));
        } else if (spoilt == 1) {
            text.setCharAt(below(text.length()), ";gmh 0123vxyp".charAt(below(13)));
        } else if (spoilt == 2) {
            text.insert(below(text.length() + 1), ";gmh 0123vxyp".charAt(below(13)));
        }
        return text.toString();
    }

    private String command() {
        int word = below(WORDS.length);
        String vault = String.valueOf(below(8) == 0 ? below(10) : below(3));
        String number = String.valueOf(below(8) == 0 ? below(100) : 1 + below(20));
        char kind = "gmh".charAt(below(3));
        char other = "gmh".charAt(below(3));
        switch (word) {
            case 0, 6:
                return WORDS[word] + vault;
            case 1, 2:
                return WORDS[word] + vault + " " + kind + number;
            case 3:
                return WORDS[word] + vault + " " + kind + other + number;
            case 4, 5:
                return WORDS[word] + vault + " " + number;
            case 7:
                return WORDS[word] + kind + number;
            case 8:
                return WORDS[word] + vault + " " + below(10);
            default:
                return below(2) == 0 ? WORDS[word] : WORDS[word] + " " + number;
        }
    }

    private void call(String name) {
        int vault = below(12) == 0 ? NUMBERS[below(NUMBERS.length)] : below(5);
        int number = below(10) == 0 ? NUMBERS[below(NUMBERS.length)] : numberFor(name);
        call(name, vault, kind(), kind(), number);
    }

    private int numberFor(String name) {
        switch (name) {
            case "mint", "redeem":
                return 1 + below(99);
            case "setStickiness", "addVault":
                return below(10);
            case "passDays":
                return 1 + below(below(4) == 0 ? 30 : 4);
            case "setRate":
                return 1 + below(below(2) == 0 ? 50 : 6);
            default:
                return 1 + below(30);
        }
    }

    private char kind() {
        return below(15) == 0 ? CHARACTERS[below(CHARACTERS.length)] : "gmh".charAt(below(3));
    }

    private void call(String name, int a, char b, char c, int d) {
        if (calls == CALLS) {
            return;
        }
        calls++;
        told.add(name + "(" + a + ", " + (int) b + ", " + (int) c + ", " + d + ")");
        Object got = Check.outcome(() -> callReal(name, a, b, c, d));
        Object due = Check.outcome(() -> model.call(name, a, b, c, d));
        if (!got.equals(due)) {
            agrees = false;
            Check.same(String.join("\n", told), got, due);
        }
    }

    /** The one int of a method is its vault, index or rank if it asks, and its number if it changes. */
    private Object callReal(String name, int a, char b, char c, int d) {
        switch (name) {
            case "addVault":
                return real.addVault(d);
            case "passDays":
                return real.passDays(d);
            case "deposit":
                return real.deposit(a, b, d);
            case "withdraw":
                return real.withdraw(a, b, d);
            case "exchange":
                return real.exchange(a, b, c, d);
            case "mint":
                return real.mint(a, d);
            case "redeem":
                return real.redeem(a, d);
            case "setRate":
                return real.setRate(b, d);
            case "setStickiness":
                return real.setStickiness(a, d);
            default:
                return callByReflection(name, a, b);
        }
    }

    private Object callByReflection(String name, int a, char b) {
        for (Method method : methods) {
            if (method.getName().equals(name)) {
                Object[] arguments = new Object[method.getParameterCount()];
                for (int i = 0; i < arguments.length; i++) {
                    arguments[i] = method.getParameterTypes()[i] == int.class ? (Object) a : (Object) b;
                }
                return invoke(method, arguments);
            }
        }
        throw new IllegalArgumentException(name);
    }

    private Object invoke(Method method, Object[] arguments) {
        try {
            return method.invoke(real, arguments);
        } catch (InvocationTargetException e) {
            if (e.getCause() instanceof RuntimeException) {
                throw (RuntimeException) e.getCause();
            }
            throw new AssertionError(e.getCause());
        } catch (IllegalAccessException e) {
            throw new AssertionError(e);
        }
    }
}
