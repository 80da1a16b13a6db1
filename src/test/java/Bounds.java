import java.lang.reflect.InvocationTargetException;
import java.lang.reflect.Method;
import java.util.ArrayList;
import java.util.Comparator;
import java.util.List;

/**
 * Runs the tests of single sentences (Says), and holds answers against those that are due. What a
 * call changes is seen from a twin: a bank made by the same calls, but for that one. So each bank
 * lives for fewer than the 512 calls of which the document speaks.
 */
public final class Bounds {
    /** Makes a bank by the same calls each time. */
    public interface Maker {
        SnippetBank make();
    }

    /** Some call on a bank. */
    public interface Call {
        Object on(SnippetBank bank);
    }

    /** Some call on a bank, of which one argument is told. */
    public interface CallWith {
        Object on(SnippetBank bank, int argument);
    }

    public static final int NONE = -1;
    public static final Class<?> ARGUMENT = IllegalArgumentException.class;
    public static final Class<?> STATE = IllegalStateException.class;
    public static final Class<?> INDEX = IndexOutOfBoundsException.class;

    private static int made = 0;
    private static int wrong = 0;

    private Bounds() {
    }

    /** The tests of a class, in the order of the promises. */
    public static List<Method> testsOf(Class<?> tests) {
        List<Method> found = new ArrayList<>();
        for (Method method : tests.getDeclaredMethods()) {
            if (method.isAnnotationPresent(Says.class)) {
                found.add(method);
            }
        }
        found.sort(Comparator.comparingInt((Method test) -> test.getAnnotation(Says.class).promise())
                .thenComparing(Method::getName));
        return found;
    }

    /** Runs each test of a class, and ends with exit code 1 if one of them failed. */
    public static void run(Class<?> tests) throws IllegalAccessException {
        int failed = 0;
        List<Method> found = testsOf(tests);
        for (Method test : found) {
            int wrongBefore = wrong;
            int madeBefore = made;
            try {
                test.invoke(null);
            } catch (InvocationTargetException e) {
                due("its end", e.getCause(), "reached");
            }
            if (wrong > wrongBefore || made == madeBefore) {
                failed++;
                Says says = test.getAnnotation(Says.class);
                System.out.println("FAILED: " + test.getName() + ", of promise " + says.promise() + ": " + says.sentence());
            }
        }
        System.out.println(found.size() + " sentences, " + made + " checks, " + failed + " sentences failed");
        if (failed > 0 || found.isEmpty()) {
            System.exit(1);
        }
    }

    public static void due(String what, Object got, Object want) {
        made++;
        if (!got.equals(want)) {
            wrong++;
            System.out.println(what + " answered " + got + ", due is " + want);
        }
    }

    /** The call answers this, and changes nothing. */
    public static void asks(String what, Maker maker, Object want, Call call) {
        SnippetBank bank = maker.make();
        due(what, outcome(bank, call), want);
        due("what is left after " + what, whole(bank), whole(maker.make()));
    }

    /** The call throws exactly this, and changes nothing. */
    public static void refused(String what, Maker maker, Class<?> kind, Call call) {
        asks(what, maker, kind, call);
    }

    /** Each argument that is not from first to last is refused, near to them and far away. */
    public static void refusedOutside(int first, int last, String what, Maker maker, Class<?> kind, CallWith call) {
        int[] outside = {
            first - 1, first - 2, first - 32, Integer.MIN_VALUE, last + 1, last + 2, last + 32, last + 64, Integer.MAX_VALUE,
        };
        for (int argument : outside) {
            refused(what + " with " + argument, maker, kind, bank -> call.on(bank, argument));
        }
    }

    private static Object outcome(SnippetBank bank, Call call) {
        try {
            return call.on(bank);
        } catch (RuntimeException e) {
            return e.getClass();
        }
    }

    /** All that can be asked of a bank, in at most 344 calls; what is in the draft is lost by that. */
    public static String whole(SnippetBank bank) {
        StringBuilder all = new StringBuilder();
        all.append("digest ").append(bank.digest()).append(", mean ").append(bank.meanShare());
        all.append(", draft ").append(draftOf(bank)).append(", shares");
        int pieces = bank.many(1);
        for (int one = 0; one < pieces; one++) {
            for (int other = 0; other < one; other++) {
                all.append(' ').append(bank.share(one, other));
            }
        }
        for (int piece = 0; piece < pieces; piece++) {
            int tokens = bank.copy(piece, 0);
            all.append(", piece");
            for (int k = 0; k < tokens; k++) {
                all.append(' ').append(bank.draft(k));
            }
        }
        return all.toString();
    }

    /** The tokens of the draft, one behind the other. */
    public static String draftOf(SnippetBank bank) {
        StringBuilder row = new StringBuilder();
        int tokens = bank.many(0);
        for (int k = 0; k < tokens; k++) {
            row.append(k == 0 ? "" : " ").append(bank.draft(k));
        }
        return row.toString();
    }

    /** The share of two rows, if the one is a piece and the other one, too. */
    public static int shareOf(int[] one, int[] other) {
        SnippetBank bank = new SnippetBank();
        Checks.keep(bank, one);
        Checks.keep(bank, other);
        due("the share, the other way round", bank.share(1, 0), bank.share(0, 1));
        return bank.share(0, 1);
    }

    public static int[] words(int from, int many) {
        int[] row = new int[many];
        for (int k = 0; k < many; k++) {
            row[k] = from + k;
        }
        return row;
    }

    /** 16 pieces of one row, 10 11 12 13, which is the draft, too. */
    public static SnippetBank equals16() {
        SnippetBank bank = new SnippetBank();
        Checks.write(bank, 10, 11, 12, 13);
        for (int piece = 0; piece < 16; piece++) {
            bank.keep();
        }
        return bank;
    }

    /** 16 pieces: each has a share of 66 with the next one, of 33 with the one behind that, and no other. */
    public static SnippetBank line16() {
        SnippetBank bank = new SnippetBank();
        Checks.write(bank, 10, 11, 12, 13, 14, 15);
        bank.keep();
        for (int piece = 1; piece < 16; piece++) {
            bank.cut(1);
            bank.token(piece < 15 ? 15 + piece : 10);
            bank.keep();
        }
        return bank;
    }

    /** 16 pieces, none with a print of another one: four times the word 10, four times 11, .. */
    public static SnippetBank strangers16() {
        SnippetBank bank = new SnippetBank();
        for (int piece = 0; piece < 16; piece++) {
            Checks.keep(bank, 10 + piece, 10 + piece, 10 + piece, 10 + piece);
        }
        return bank;
    }

    /** 16 strangers, none of them told its licence: there is one, strong, that asks and forbids duty 0. */
    public static SnippetBank strangersAndLicence() {
        SnippetBank bank = strangers16();
        bank.licence(1, 1, true, 0);
        return bank;
    }

    /** Five projects, each with this piece (or NONE) in its root alone. */
    public static void projectsOf(SnippetBank bank, int piece) {
        for (int project = 0; project < 5; project++) {
            bank.project();
            bank.replace(project, 0, piece);
        }
    }

    public static void shipAll(SnippetBank bank) {
        for (int project = 0; project < 5; project++) {
            bank.ship(project);
        }
    }

    /** Ten nodes in the first project, all below the root, and all with this piece (or NONE). */
    public static void tenNodesOf(SnippetBank bank, int piece) {
        bank.project();
        bank.replace(0, 0, piece);
        for (int node = 1; node < 10; node++) {
            bank.node(0, 0, piece);
        }
    }

    /** Ten nodes in the first project, each below the one before; none has a piece. */
    public static void tenInLine(SnippetBank bank) {
        bank.project();
        for (int node = 1; node < 10; node++) {
            bank.node(0, node - 1, NONE);
        }
    }

    /**
     * As full as a bank can be, in fewer than 160 calls: 12 tokens, 16 pieces, 6 licences, 5 projects
     * of 10 nodes. 0 and 4 are open, 1 and 3 shipped, 2 recalled.
     */
    public static SnippetBank full() {
        SnippetBank bank = new SnippetBank();
        fillPieces(bank);
        fillLicences(bank);
        for (int project = 0; project < 5; project++) {
            bank.project();
            for (int node = 1; node < 10; node++) {
                int piece = project == 0 || project == 4 ? node * 3 % 17 - 1 : NONE;
                bank.node(project, (node + project) % node, piece);
            }
        }
        for (int duty = 0; duty < 5; duty++) {
            bank.notice(3, duty, true);
            bank.notice(4, duty, duty != 2);
        }
        bank.replace(3, 7, 0);
        for (int project = 1; project < 4; project++) {
            bank.ship(project);
        }
        bank.replace(2, 5, 15);
        return bank;
    }

    private static void fillPieces(SnippetBank bank) {
        for (int k = 0; k < 27; k++) {
            if (k >= 12) {
                bank.cut(1);
            }
            bank.token(k % 3 == 1 ? k % 10 : 10 + k * 7 % 20);
            if (k >= 11) {
                bank.keep();
            }
        }
    }

    private static void fillLicences(SnippetBank bank) {
        for (int licence = 0; licence < 6; licence++) {
            bank.licence(1 << licence % 5, 1 << (licence + 1) % 5, licence % 3 == 0, licence);
            bank.tell(3 * licence, licence);
        }
        bank.ask(15, 5);
        bank.ask(12, 4);
    }

    /** Little of each: two pieces, two licences, two projects, one of them with two nodes; a draft of 4. */
    public static SnippetBank small() {
        SnippetBank bank = new SnippetBank();
        Checks.keep(bank, 10, 11, 12, 13);
        Checks.keep(bank, 14, 0, 14, 1);
        bank.licence(1, 0, false, 1);
        bank.licence(0, 1, true, 0);
        bank.tell(0, 0);
        bank.tell(1, 1);
        bank.project();
        bank.project();
        bank.node(0, 0, 0);
        bank.notice(0, 0, true);
        bank.ship(0);
        return bank;
    }
}
