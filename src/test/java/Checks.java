/** Holds answers against those that are due, and fails the test at its end if one was another. */
public final class Checks {
    /** A call that is to be refused. */
    public interface Call {
        Object make();
    }

    public static final Class<?> ARGUMENT = IllegalArgumentException.class;
    public static final Class<?> STATE = IllegalStateException.class;
    public static final Class<?> INDEX = IndexOutOfBoundsException.class;

    private int made = 0;
    private int wrong = 0;

    public void due(String what, Object got, Object want) {
        made++;
        if (!got.equals(want)) {
            wrong++;
            System.out.println(what + " answered " + got + ", due is " + want);
        }
    }

    /** The call throws exactly this, and the bank is what it was. */
    public void refused(String what, SnippetBank bank, Class<?> kind, Call call) {
        String before = stateOf(bank);
        Object got;
        try {
            got = call.make();
        } catch (RuntimeException e) {
            got = e.getClass();
        }
        due(what, got, kind);
        due("what is left after " + what, stateOf(bank), before);
    }

    public void end() {
        System.out.println(made + " checks, " + wrong + " wrong");
        if (wrong > 0) {
            System.exit(1);
        }
    }

    /** All that can be asked: the digest, and the tokens of the draft, which are not in it. */
    public static String stateOf(SnippetBank bank) {
        StringBuilder state = new StringBuilder();
        state.append(bank.digest()).append(' ').append(bank.meanShare());
        for (int k = 0; k < bank.many(0); k++) {
            state.append(' ').append(bank.draft(k));
        }
        return state.toString();
    }

    public static void write(SnippetBank bank, int... tokens) {
        bank.cut(12);
        for (int token : tokens) {
            bank.token(token);
        }
    }

    public static int keep(SnippetBank bank, int... tokens) {
        write(bank, tokens);
        return bank.keep();
    }

    /** Keeps a piece of words one after the other: from, from + 1, .. */
    public static int keepWords(SnippetBank bank, int from, int many) {
        int[] tokens = new int[many];
        for (int k = 0; k < many; k++) {
            tokens[k] = from + k;
        }
        return keep(bank, tokens);
    }

    /** Five pieces that have no print with each other, 0 to 4. */
    public static SnippetBank withStrangers() {
        SnippetBank bank = new SnippetBank();
        for (int k = 0; k < 5; k++) {
            keepWords(bank, 10 + 4 * k, 4);
        }
        return bank;
    }

    /** Three pieces, 0 to 2: each has a share of 66 with the next one, 0 and 2 one of 33. */
    public static SnippetBank withChain() {
        SnippetBank bank = new SnippetBank();
        for (int k = 0; k < 3; k++) {
            keepWords(bank, 10 + k, 6);
        }
        return bank;
    }
}
