import java.lang.reflect.InvocationTargetException;
import java.lang.reflect.Method;

/**
 * Long mixed runs of calls, the same ones on SnippetBank and on PlainBank: each answer, each
 * exception and the digests must be the same. The runs are always the same ones.
 */
public final class ModelTest {
    private static final int RUNS = 300;
    private static final int CALLS = 512;

    /** Each call, how often it comes, and what its arguments are (see argument). */
    private static final String[][] TABLE = {
        {"token", "40", "t"}, {"cut", "10", "u"}, {"copy", "8", "ps"}, {"keep", "12", ""}, {"draft", "3", "k"},
        {"scan", "4", "p"}, {"share", "4", "pp"}, {"ofPiece", "8", "pw"}, {"nearness", "4", "h"},
        {"licence", "6", "ddbi"}, {"ofLicence", "5", "lw"}, {"tell", "14", "pl"}, {"ask", "20", "pl"},
        {"project", "4", ""}, {"node", "20", "jnp"}, {"replace", "14", "jnp"}, {"remove", "8", "jn"},
        {"ofNode", "6", "jnw"}, {"notice", "24", "jib"}, {"ship", "40", "j"}, {"ofProject", "8", "jw"},
        {"many", "5", "w"}, {"meanShare", "2", ""}, {"recalledBy", "16", "pl"}, {"clashesWith", "6", "jnp"},
        {"remedy", "10", "j"}, {"substitute", "6", "jn"}, {"boundWith", "4", "h"}, {"digest", "5", ""},
    };

    private static long seed;
    private static int words;
    private static int names;
    private static int duties;

    private static int below(int bound) {
        seed = seed * 6364136223846793005L + 1442695040888963407L;
        return (int) ((seed >>> 33) % bound);
    }

    private static int upTo(int most) {
        int odd = below(200);
        if (odd == 0) return Integer.MAX_VALUE;
        if (odd == 1) return Integer.MIN_VALUE;
        if (odd < 5) return most + 1;
        if (odd < 9) return -1;
        return below(most + 1);
    }

    private static int oneOfFew(PlainBank bank, int what, int most) {
        return below(16) == 0 ? upTo(most) : upTo(Math.max(0, bank.many(what) - 1));
    }

    private static int dutySet() {
        if (below(30) == 0) return below(2) == 0 ? 32 : -1;
        int set = 0;
        for (int k = 0; k < 5; k++) {
            if (below(12) < duties) set |= 1 << k;
        }
        return set;
    }

    private static int oneOfNodes(PlainBank bank, int project) {
        boolean isThere = project >= 0 && project < bank.many(3);
        if (!isThere || below(10) == 0) return upTo(9);
        int nodes = bank.ofProject(project, 6);
        int node = below(10);
        while ((nodes >> node & 1) == 0) node = (node + 1) % 10;
        return node;
    }

    private static Object argument(char kind, PlainBank bank, Object first) {
        switch (kind) {
            case 't': return below(60) == 0 ? upTo(30) : below(3) == 0 ? below(names) : 10 + below(words);
            case 'u': return below(6) == 0 ? upTo(12) : 1 + below(4);
            case 'p': return oneOfFew(bank, 1, 15);
            case 's': return upTo(9);
            case 'k': return upTo(11);
            case 'w': return upTo(11);
            case 'h': return below(10) == 0 ? upTo(101) : 1 + below(100);
            case 'd': return dutySet();
            case 'i': return upTo(5);
            case 'l': return oneOfFew(bank, 2, 5);
            case 'j': return oneOfFew(bank, 3, 4);
            case 'n': return oneOfNodes(bank, (Integer) first);
            default: return below(4) > 0;
        }
    }

    private static Object outcome(Object bank, Method method, Object[] arguments) throws IllegalAccessException {
        try {
            return method.invoke(bank, arguments);
        } catch (InvocationTargetException e) {
            return e.getCause().getClass().getName();
        }
    }

    private static Method named(Class<?> type, String name) {
        for (Method method : type.getDeclaredMethods()) {
            if (method.getName().equals(name) && java.lang.reflect.Modifier.isPublic(method.getModifiers())) return method;
        }
        throw new IllegalStateException(name);
    }

    /** The first calls build the bank up, so that the others find something there. */
    private static int pick(int call) {
        if (call < 120 && below(3) > 0) {
            String building = call < 90 ? "token token token token token cut copy keep keep" : "licence project tell tell node";
            String[] names = building.split(" ");
            String name = names[below(names.length)];
            for (int k = 0; k < TABLE.length; k++) {
                if (TABLE[k][0].equals(name)) return k;
            }
        }
        int sum = 0;
        for (String[] row : TABLE) sum += Integer.parseInt(row[1]);
        int left = below(sum);
        int k = 0;
        while (left >= Integer.parseInt(TABLE[k][1])) {
            left -= Integer.parseInt(TABLE[k][1]);
            k++;
        }
        return k;
    }

    private static boolean isAsDue(int run) throws IllegalAccessException {
        seed = run * 1000003L + 17;
        words = 1 + below(6);
        names = 1 + below(5);
        duties = 1 + below(3);
        SnippetBank bank = new SnippetBank();
        PlainBank plain = new PlainBank();
        for (int call = 0; call < CALLS; call++) {
            String[] row = TABLE[call == CALLS - 1 ? TABLE.length - 1 : pick(call)];
            Object[] arguments = new Object[row[2].length()];
            for (int k = 0; k < arguments.length; k++) arguments[k] = argument(row[2].charAt(k), plain, arguments[0]);
            Object got = outcome(bank, named(SnippetBank.class, row[0]), arguments);
            Object want = outcome(plain, named(PlainBank.class, row[0]), arguments);
            counted(row[0], want, plain);
            if (!got.equals(want)) {
                System.out.println("run " + run + ", call " + call + ": " + row[0]
                        + java.util.Arrays.toString(arguments) + " answered " + got + ", due is " + want);
                return false;
            }
        }
        return true;
    }

    private static int refused = 0;
    private static int recalled = 0;
    private static int granted = 0;
    private static int shipped = 0;
    private static int remedies = 0;

    private static void counted(String call, Object want, PlainBank plain) {
        if (want instanceof String) refused++;
        else if (call.equals("ship")) shipped++;
        else if (call.equals("ask") && want.equals(true)) granted++;
        else if (call.equals("remedy") && !want.equals(0)) remedies++;
        else if (call.equals("recalledBy") && !want.equals(0)) recalled++;
    }

    public static void main(String[] args) throws IllegalAccessException {
        int wrong = 0;
        for (int run = 1; run <= RUNS; run++) {
            if (!isAsDue(run)) wrong++;
        }
        System.out.println("refused " + refused + ", shipped " + shipped + ", granted " + granted
                + ", remedies " + remedies + ", would be recalled " + recalled);
        // Runs in which these hardly come would say little.
        if (refused < 1000 || shipped < 200 || granted < 200 || remedies < 200 || recalled < 50) {
            System.out.println("the runs are too dull");
            wrong++;
        }
        if (wrong > 0) System.exit(1);
    }
}
