import java.lang.reflect.InvocationTargetException;
import java.lang.reflect.Method;
import java.lang.reflect.Modifier;

/**
 * A bank as full as it can be, and one with nothing: each call that only asks, with each number
 * round the limits, held against PlainBank. An exception of the machine's own would be seen here.
 */
public final class LimitsTest {
    private static final int[] NUMBERS = {
        Integer.MIN_VALUE, -2, -1, 0, 1, 2, 3, 4, 5, 6, 7, 8, 9, 10, 11, 12, 15, 16, 17, 31, 32, 33, 63, 64, Integer.MAX_VALUE,
    };
    private static final String[] ASKING = {
        "draft", "scan", "share", "ofPiece", "ofLicence", "ofNode", "ofProject", "many", "recalledBy", "clashesWith",
        "remedy", "substitute", "boundWith", "digest", "meanShare",
    };
    private static final String[] REFUSED_BY_A_FULL_ONE = {"token", "keep", "licence", "project", "node"};

    private static final Checks checks = new Checks();

    private static Method named(Object bank, String name) {
        for (Method method : bank.getClass().getDeclaredMethods()) {
            if (method.getName().equals(name) && Modifier.isPublic(method.getModifiers())) {
                return method;
            }
        }
        throw new IllegalStateException(name);
    }

    private static Object call(Object bank, String name, Object... arguments) {
        try {
            return named(bank, name).invoke(bank, arguments);
        } catch (InvocationTargetException e) {
            return e.getCause().getClass().getName();
        } catch (IllegalAccessException e) {
            throw new IllegalStateException(e);
        }
    }

    private static void both(SnippetBank bank, PlainBank plain, String name, Object... arguments) {
        String what = name + java.util.Arrays.toString(arguments);
        checks.due(what, call(bank, name, arguments), call(plain, name, arguments));
    }

    private static void askAll(SnippetBank bank, PlainBank plain, String name) {
        int places = named(bank, name).getParameterCount();
        int count = 1;
        for (int k = 0; k < places; k++) {
            count *= NUMBERS.length;
        }
        for (int k = 0; k < count; k++) {
            Object[] arguments = new Object[places];
            int left = k;
            for (int place = 0; place < places; place++) {
                arguments[place] = NUMBERS[left % NUMBERS.length];
                left /= NUMBERS.length;
            }
            both(bank, plain, name, arguments);
        }
    }

    private static void fill(SnippetBank bank, PlainBank plain) {
        for (int piece = 0; piece < 16; piece++) {
            both(bank, plain, "cut", 3 + piece % 3);
            for (int k = 0; k < 12; k++) {
                both(bank, plain, "token", (piece * 7 + k * (piece % 4 + 1)) % 30);
            }
            both(bank, plain, "keep");
        }
        for (int licence = 0; licence < 6; licence++) {
            both(bank, plain, "licence", 1 << licence % 5, 1 << (licence + 1) % 5, licence % 3 == 0, licence);
        }
        for (int piece = 0; piece < 16; piece += 3) {
            both(bank, plain, "tell", piece, piece % 6);
        }
        for (int project = 0; project < 5; project++) {
            both(bank, plain, "project");
            both(bank, plain, "replace", project, 0, 15);
            for (int node = 1; node < 10; node++) {
                both(bank, plain, "node", project, (node + project) % node, (node * (project + 1)) % 17 - 1);
            }
        }
    }

    private static void wrongOnesChangeNothing(SnippetBank bank) {
        for (String name : REFUSED_BY_A_FULL_ONE) {
            checks.refused("a full bank: " + name, bank, Checks.STATE, () -> {
                switch (name) {
                    case "token": return bank.token(0);
                    case "keep": return bank.keep();
                    case "licence": return bank.licence(0, 0, false, 0);
                    case "project": return bank.project();
                    default: return bank.node(4, 9, 15);
                }
            });
        }
    }

    private static void shipAndRecallAll(SnippetBank bank, PlainBank plain) {
        both(bank, plain, "nearness", 100);
        for (int project = 0; project < 5; project++) {
            both(bank, plain, "replace", project, 0, -1);
            both(bank, plain, "remove", project, 1);
            for (int node = 2; node < 10; node++) {
                both(bank, plain, "replace", project, node, -1);
            }
            both(bank, plain, "replace", project, 0, 15);
            both(bank, plain, "tell", 15, -1);
            both(bank, plain, "ship", project);
        }
        both(bank, plain, "digest");
        both(bank, plain, "recalledBy", 15, 5);
        both(bank, plain, "tell", 15, 5);
        both(bank, plain, "digest");
    }

    public static void main(String[] args) {
        SnippetBank bank = new SnippetBank();
        PlainBank plain = new PlainBank();
        for (String name : ASKING) {
            askAll(bank, plain, name);
        }
        fill(bank, plain);
        for (String name : ASKING) {
            askAll(bank, plain, name);
        }
        wrongOnesChangeNothing(bank);
        shipAndRecallAll(bank, plain);
        checks.end();
    }
}
