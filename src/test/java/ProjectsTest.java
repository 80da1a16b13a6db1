/** Promises 15 to 24: the trees of nodes, their clashes and duties, shipping, and what is counted. */
public final class ProjectsTest {
    private static final Checks checks = new Checks();

    /**
     * Strangers 0 to 4. 0 asks duty 0; 1 forbids it; 2 asks and forbids duty 1; 3 has no licence;
     * 4 forbids duty 0 and is strong. One project, its root empty.
     */
    private static SnippetBank withTerms() {
        SnippetBank bank = Checks.withStrangers();
        bank.licence(1, 0, false, 2);
        bank.licence(0, 1, false, 0);
        bank.licence(2, 2, false, 0);
        bank.licence(0, 1, true, 0);
        bank.tell(0, 0);
        bank.tell(1, 1);
        bank.tell(2, 2);
        bank.tell(4, 3);
        bank.project();
        return bank;
    }

    private static void promise15Project() {
        SnippetBank bank = new SnippetBank();
        for (int k = 0; k < 5; k++) {
            checks.due("15: project", bank.project(), k);
            checks.due("15: open", bank.ofProject(k, 0), 0);
            checks.due("15: the root alone", bank.ofProject(k, 6), 1);
            checks.due("15: without a parent", bank.ofNode(k, 0, 0), -1);
            checks.due("15: empty", bank.ofNode(k, 0, 1), -1);
            checks.due("15: no notices", bank.ofProject(k, 4), 0);
        }
        checks.refused("15: a 6th project", bank, Checks.STATE, bank::project);
    }

    private static void promise16Node() {
        SnippetBank bank = withTerms();
        checks.due("16: node 1", bank.node(0, 0, 3), 1);
        checks.due("16: node 2", bank.node(0, 1, -1), 2);
        checks.due("16: its parent", bank.ofNode(0, 2, 0), 1);
        checks.due("16: its piece", bank.ofNode(0, 1, 1), 3);
        checks.due("16: empty", bank.ofNode(0, 2, 1), -1);
        checks.due("16: node 3", bank.node(0, 2, 3), 3);
        bank.remove(0, 2);
        checks.due("16: the smallest number that is not there", bank.node(0, 0, -1), 2);
        checks.due("16: without what was there", bank.ofNode(0, 2, 1) * 10 + bank.ofNode(0, 2, 0), -10);
        checks.due("16: and the next one, below a later one", bank.node(0, 2, -1), 3);
        for (int k = 4; k < 10; k++) {
            checks.due("16: node", bank.node(0, k - 1, -1), k);
        }
        checks.refused("16: an 11th node", bank, Checks.STATE, () -> bank.node(0, 0, -1));
        checks.refused("16: an 11th node without a parent", bank, Checks.INDEX, () -> bank.node(0, 10, -1));
        checks.refused("16: an 11th node with a wrong piece", bank, Checks.INDEX, () -> bank.node(0, 0, 5));
        bank.project();
        checks.refused("16: node(2, 0, 0)", bank, Checks.INDEX, () -> bank.node(2, 0, 0));
        checks.refused("16: node(-1, 0, 0)", bank, Checks.INDEX, () -> bank.node(-1, 0, 0));
        checks.refused("16: node(1, 1, 0)", bank, Checks.INDEX, () -> bank.node(1, 1, 0));
        checks.refused("16: node(1, -1, 0)", bank, Checks.INDEX, () -> bank.node(1, -1, 0));
        checks.refused("16: node(1, 32, 0)", bank, Checks.INDEX, () -> bank.node(1, 32, 0));
        checks.refused("16: node(1, 0, 5)", bank, Checks.INDEX, () -> bank.node(1, 0, 5));
        checks.refused("16: node(1, 0, -2)", bank, Checks.INDEX, () -> bank.node(1, 0, -2));
        bank.ship(1);
        bank.node(1, 0, 3);
        checks.due("16: still shipped", bank.ofProject(1, 0), 1);
        bank.node(1, 0, 0);
        checks.due("16: recalled, as it owes", bank.ofProject(1, 0), 2);
    }

    private static void promise17Replace() {
        SnippetBank bank = withTerms();
        checks.due("17: none before", bank.replace(0, 0, 3), -1);
        checks.due("17: 3 before", bank.replace(0, 0, 4), 3);
        checks.due("17: the piece then", bank.ofNode(0, 0, 1), 4);
        checks.due("17: 4 before", bank.replace(0, 0, -1), 4);
        checks.due("17: empty then", bank.ofNode(0, 0, 1), -1);
        checks.refused("17: replace(1, 0, 0)", bank, Checks.INDEX, () -> bank.replace(1, 0, 0));
        checks.refused("17: replace(-1, 0, 0)", bank, Checks.INDEX, () -> bank.replace(-1, 0, 0));
        checks.refused("17: replace(0, 1, 0)", bank, Checks.INDEX, () -> bank.replace(0, 1, 0));
        checks.refused("17: replace(0, -1, 0)", bank, Checks.INDEX, () -> bank.replace(0, -1, 0));
        checks.refused("17: replace(0, 0, 5)", bank, Checks.INDEX, () -> bank.replace(0, 0, 5));
        checks.refused("17: replace(0, 0, -2)", bank, Checks.INDEX, () -> bank.replace(0, 0, -2));
        bank.node(0, 0, 1);
        bank.notice(0, 0, true);
        bank.ship(0);
        bank.replace(0, 0, 3);
        checks.due("17: still shipped", bank.ofProject(0, 0), 1);
        bank.replace(0, 0, 0);
        checks.due("17: recalled, as it clashes", bank.ofProject(0, 0), 2);
        bank.replace(0, 0, 3);
        checks.due("17: still recalled", bank.ofProject(0, 0), 2);
    }

    private static void promise18Remove() {
        SnippetBank bank = withTerms();
        bank.node(0, 0, 3);
        bank.node(0, 1, 3);
        bank.node(0, 0, 3);
        bank.node(0, 2, 3);
        checks.due("18: all above which it is, too", bank.remove(0, 1), 3);
        checks.due("18: what is left", bank.ofProject(0, 6), 1 + 8);
        bank.node(0, 3, 0);
        bank.node(0, 1, 0);
        checks.due("18: those with smaller numbers, too", bank.remove(0, 3), 3);
        checks.due("18: the root is left", bank.ofProject(0, 6), 1);
        bank.node(0, 0, -1);
        bank.node(0, 0, -1);
        checks.due("18: one alone", bank.remove(0, 1), 1);
        checks.due("18: the others are left", bank.ofProject(0, 6), 1 + 4);
        checks.refused("18: the root", bank, Checks.STATE, () -> bank.remove(0, 0));
        checks.refused("18: one that is gone", bank, Checks.INDEX, () -> bank.remove(0, 1));
        checks.refused("18: remove(0, -1)", bank, Checks.INDEX, () -> bank.remove(0, -1));
        checks.refused("18: remove(0, 10)", bank, Checks.INDEX, () -> bank.remove(0, 10));
        checks.refused("18: remove(1, 0)", bank, Checks.INDEX, () -> bank.remove(1, 0));
        checks.refused("18: remove(-1, 0)", bank, Checks.INDEX, () -> bank.remove(-1, 0));
        bank.replace(0, 0, 1);
        bank.replace(0, 2, 0);
        bank.notice(0, 0, true);
        checks.due("18: a clash", bank.ofProject(0, 2), 1);
        bank.remove(0, 2);
        checks.due("18: no clash", bank.ofProject(0, 2), 0);
    }

    private static void promise19OfNode() {
        SnippetBank bank = withTerms();
        bank.node(0, 0, 0);
        bank.node(0, 0, 1);
        bank.node(0, 1, 1);
        bank.node(0, 3, 2);
        checks.due("19: parent", bank.ofNode(0, 4, 0), 3);
        checks.due("19: parent of the root", bank.ofNode(0, 0, 0), -1);
        checks.due("19: piece", bank.ofNode(0, 4, 1), 2);
        checks.due("19: bound", bank.ofNode(0, 3, 2), 2);
        checks.due("19: bound, if empty", bank.ofNode(0, 0, 2), 0);
        checks.due("19: clashes with one below", bank.ofNode(0, 1, 3), 8);
        checks.due("19: not beside it, as none is strong", bank.ofNode(0, 2, 3), 0);
        checks.due("19: clashes with one above", bank.ofNode(0, 3, 3), 2);
        checks.due("19: clashes with itself", bank.ofNode(0, 4, 3), 16);
        checks.due("19: above", bank.ofNode(0, 4, 4), 3);
        checks.due("19: above the root", bank.ofNode(0, 0, 4), 0);
        bank.replace(0, 2, 4);
        checks.due("19: beside it, as one is strong", bank.ofNode(0, 2, 3), 2);
        checks.due("19: the other way round", bank.ofNode(0, 1, 3), 4 + 8);
        checks.refused("19: ofNode(1, 0, 0)", bank, Checks.INDEX, () -> bank.ofNode(1, 0, 0));
        checks.refused("19: ofNode(-1, 0, 0)", bank, Checks.INDEX, () -> bank.ofNode(-1, 0, 0));
        checks.refused("19: ofNode(0, 5, 0)", bank, Checks.INDEX, () -> bank.ofNode(0, 5, 0));
        checks.refused("19: ofNode(0, -1, 0)", bank, Checks.INDEX, () -> bank.ofNode(0, -1, 0));
        checks.refused("19: ofNode(0, 10, 0)", bank, Checks.INDEX, () -> bank.ofNode(0, 10, 0));
        checks.refused("19: ofNode(0, 0, 5)", bank, Checks.ARGUMENT, () -> bank.ofNode(0, 0, 5));
        checks.refused("19: ofNode(0, 0, -1)", bank, Checks.ARGUMENT, () -> bank.ofNode(0, 0, -1));
        checks.refused("19: ofNode(0, 5, 5)", bank, Checks.INDEX, () -> bank.ofNode(0, 5, 5));
    }

    /** Weak licences that clash with themselves, and clashes of what came with a copy. */
    private static void clashesOfOnePiece() {
        SnippetBank bank = withTerms();
        bank.node(0, 0, 2);
        bank.node(0, 0, 2);
        checks.due("19: each with itself, not beside", bank.ofProject(0, 2), 2);
        bank.node(0, 1, 2);
        checks.due("19: in line, too", bank.ofNode(0, 3, 3), 2 + 8);
        checks.due("19: one more and each with itself", bank.ofProject(0, 2), 4);
        bank.copy(0, 0);
        int copy = bank.keep();
        bank.tell(copy, 1);
        bank.replace(0, 0, copy);
        checks.due("19: bound by its own and that of what it is near to", bank.ofNode(0, 0, 2), 3);
        checks.due("19: both clash", bank.ofNode(0, 0, 3), 1);
        bank.ask(copy, 0);
        checks.due("19: freed of one", bank.ofNode(0, 0, 3), 0);
    }

    private static void strongOfEither() {
        SnippetBank bank = Checks.withStrangers();
        bank.licence(1, 0, true, 0);
        bank.licence(0, 1, false, 0);
        bank.tell(0, 0);
        bank.tell(1, 1);
        bank.project();
        bank.node(0, 0, 0);
        bank.node(0, 0, 1);
        checks.due("19: the one that asks is strong", bank.ofNode(0, 1, 3), 4);
        checks.due("19: seen from the other one", bank.ofNode(0, 2, 3), 2);
        bank.licence(2, 2, true, 0);
        bank.tell(0, 2);
        bank.replace(0, 2, 0);
        checks.due("19: a strong one against itself", bank.ofNode(0, 1, 3), 2 + 4);
    }

    /** A strong licence that has no part in the clash does not make it one. */
    private static void strongOfAnother() {
        SnippetBank bank = Checks.withStrangers();
        bank.licence(1, 0, false, 0);
        bank.licence(0, 1, false, 0);
        bank.licence(0, 0, true, 0);
        bank.tell(0, 0);
        bank.tell(1, 1);
        bank.copy(0, 0);
        int copy = bank.keep();
        bank.tell(copy, 2);
        bank.project();
        bank.node(0, 0, copy);
        bank.node(0, 0, 1);
        checks.due("19: bound by a strong one, too", bank.ofNode(0, 1, 2), 1 + 4);
        checks.due("19: which clashes with none", bank.ofProject(0, 2), 0);
    }

    /** Of two licences of one piece, each is looked at: what it asks, and what it clashes with. */
    private static void boundByTwo() {
        SnippetBank bank = Checks.withStrangers();
        bank.licence(1, 0, true, 0);
        bank.licence(2, 0, false, 0);
        bank.licence(0, 1, false, 0);
        bank.licence(0, 2, false, 0);
        bank.copy(0, 0);
        int copy = bank.keep();
        bank.tell(0, 0);
        bank.tell(copy, 1);
        bank.tell(1, 2);
        bank.tell(2, 3);
        bank.project();
        bank.node(0, 0, copy);
        bank.node(0, 1, 1);
        bank.node(0, 1, 2);
        bank.node(0, 0, 1);
        bank.node(0, 0, 2);
        checks.due("22: owes what both ask", bank.ofProject(0, 3), 3);
        checks.due("19: those below, and beside it that of the strong one", bank.ofNode(0, 1, 3), 4 + 8 + 16);
    }

    private static void promise20Notice() {
        SnippetBank bank = withTerms();
        checks.due("20: put up", bank.notice(0, 4, true), false);
        checks.due("20: up", bank.ofProject(0, 4), 16);
        checks.due("20: put up again", bank.notice(0, 4, true), true);
        bank.notice(0, 0, true);
        checks.due("20: taken down", bank.notice(0, 4, false), true);
        checks.due("20: what is still up", bank.ofProject(0, 4), 1);
        checks.due("20: taken down again", bank.notice(0, 4, false), false);
        checks.refused("20: notice(1, 0, true)", bank, Checks.INDEX, () -> bank.notice(1, 0, true));
        checks.refused("20: notice(-1, 0, true)", bank, Checks.INDEX, () -> bank.notice(-1, 0, true));
        checks.refused("20: notice(0, 5, true)", bank, Checks.INDEX, () -> bank.notice(0, 5, true));
        checks.refused("20: notice(0, -1, false)", bank, Checks.INDEX, () -> bank.notice(0, -1, false));
        bank.replace(0, 0, 0);
        bank.ship(0);
        bank.notice(0, 3, false);
        checks.due("20: that one was not asked", bank.ofProject(0, 0), 1);
        bank.notice(0, 0, false);
        checks.due("20: recalled", bank.ofProject(0, 0), 2);
        bank.notice(0, 0, true);
        checks.due("20: shipped only if told", bank.ofProject(0, 0), 2);
    }

    private static void promise21Ship() {
        SnippetBank bank = withTerms();
        bank.project();
        checks.due("21: an empty one", bank.ship(1), 0);
        checks.refused("21: one that is shipped", bank, Checks.STATE, () -> bank.ship(1));
        bank.replace(0, 0, 0);
        checks.refused("21: one that owes", bank, Checks.STATE, () -> bank.ship(0));
        bank.notice(0, 0, true);
        bank.node(0, 0, 1);
        checks.refused("21: one with a clash", bank, Checks.STATE, () -> bank.ship(0));
        bank.replace(0, 1, -1);
        checks.due("21: one that is in order", bank.ship(0), 0);
        checks.due("21: shipped", bank.ofProject(0, 0), 1);
        for (int k = 1; k <= 3; k++) {
            bank.replace(0, 1, 1);
            checks.due("21: recalled", bank.ofProject(0, 0), 2);
            checks.refused("21: still with a clash", bank, Checks.STATE, () -> bank.ship(0));
            bank.replace(0, 1, 3);
            checks.due("21: shipped again", bank.ship(0), k);
        }
        checks.refused("21: ship(2)", bank, Checks.INDEX, () -> bank.ship(2));
        checks.refused("21: ship(-1)", bank, Checks.INDEX, () -> bank.ship(-1));
    }

    private static void promise22OfProject() {
        SnippetBank bank = withTerms();
        bank.replace(0, 0, 1);
        bank.node(0, 0, 0);
        bank.node(0, 0, 2);
        bank.node(0, 1, 4);
        bank.node(0, 2, -1);
        checks.due("22: open", bank.ofProject(0, 0), 0);
        checks.due("22: nodes", bank.ofProject(0, 1), 5);
        checks.due("22: clashes 0-1, 1-3, 2", bank.ofProject(0, 2), 3);
        checks.due("22: owes", bank.ofProject(0, 3), 3);
        bank.notice(0, 1, true);
        bank.notice(0, 3, true);
        checks.due("22: owes, but what is up", bank.ofProject(0, 3), 1);
        checks.due("22: notices", bank.ofProject(0, 4), 2 + 8);
        checks.due("22: recalled never", bank.ofProject(0, 5), 0);
        bank.remove(0, 1);
        checks.due("22: set of nodes", bank.ofProject(0, 6), 1 + 4 + 16);
        checks.due("22: nodes then", bank.ofProject(0, 1), 3);
        bank.replace(0, 2, -1);
        checks.due("22: clashes then", bank.ofProject(0, 2), 0);
        bank.ship(0);
        checks.due("22: shipped", bank.ofProject(0, 0), 1);
        bank.replace(0, 2, 0);
        checks.due("22: recalled", bank.ofProject(0, 0) * 10 + bank.ofProject(0, 5), 21);
        checks.refused("22: ofProject(1, 0)", bank, Checks.INDEX, () -> bank.ofProject(1, 0));
        checks.refused("22: ofProject(-1, 0)", bank, Checks.INDEX, () -> bank.ofProject(-1, 0));
        checks.refused("22: ofProject(0, 7)", bank, Checks.ARGUMENT, () -> bank.ofProject(0, 7));
        checks.refused("22: ofProject(0, -1)", bank, Checks.ARGUMENT, () -> bank.ofProject(0, -1));
        checks.refused("22: ofProject(1, 7)", bank, Checks.INDEX, () -> bank.ofProject(1, 7));
    }

    private static void allTenNodesClash() {
        SnippetBank bank = Checks.withStrangers();
        bank.licence(31, 31, true, 0);
        bank.tell(0, 0);
        bank.project();
        bank.replace(0, 0, 0);
        for (int k = 1; k < 10; k++) {
            bank.node(0, 0, 0);
        }
        checks.due("22: each two, and each with itself", bank.ofProject(0, 2), 45 + 10);
        checks.due("22: all nodes", bank.ofProject(0, 6), 1023);
        checks.due("22: all duties", bank.ofProject(0, 3), 31);
        checks.due("22: the last one clashes with all", bank.ofNode(0, 9, 3), 1023);
        checks.due("22: all must be empty", bank.remedy(0), 1023);
    }

    private static void promise23Many() {
        SnippetBank bank = withTerms();
        int[] due = {4, 5, 4, 1, 1, 0, 0, 1, 5, 0, 60};
        for (int what = 0; what <= 10; what++) {
            checks.due("23: many(" + what + ")", bank.many(what), due[what]);
        }
        bank.project();
        bank.project();
        bank.node(0, 0, 0);
        bank.node(2, 0, 3);
        bank.ship(1);
        bank.ship(2);
        bank.replace(2, 1, 2);
        bank.ask(0, 0);
        bank.token(10);
        bank.copy(3, 0);
        bank.token(9);
        bank.keep();
        bank.nearness(99);
        due = new int[] {5, 6, 4, 3, 1, 1, 1, 5, 5, 1, 99};
        for (int what = 0; what <= 10; what++) {
            checks.due("23: later, many(" + what + ")", bank.many(what), due[what]);
        }
        checks.refused("23: many(11)", bank, Checks.ARGUMENT, () -> bank.many(11));
        checks.refused("23: many(-1)", bank, Checks.ARGUMENT, () -> bank.many(-1));
    }

    private static void promise24MeanShare() {
        SnippetBank bank = new SnippetBank();
        Checks.keepWords(bank, 10, 6);
        checks.due("24: of one", bank.meanShare(), 0.0);
        Checks.keepWords(bank, 11, 6);
        checks.due("24: of two", bank.meanShare(), 66.0);
        Checks.keepWords(bank, 12, 6);
        checks.due("24: (66 + 66 + 33) / 3", bank.meanShare(), 55.0);
        Checks.keepWords(bank, 24, 4);
        checks.due("24: 165 / 6 is not cut", bank.meanShare(), 27.5);
        bank.nearness(1);
        checks.due("24: nearness is no matter", bank.meanShare(), 27.5);
        Checks.keepWords(bank, 24, 4);
        checks.due("24: 265 / 10", bank.meanShare(), 26.5);
        Checks.keepWords(bank, 20, 4);
        checks.due("24: 265 / 15", bank.meanShare(), 265.0 / 15.0);
    }

    public static void main(String[] args) {
        promise15Project();
        promise16Node();
        promise17Replace();
        promise18Remove();
        promise19OfNode();
        clashesOfOnePiece();
        strongOfEither();
        strongOfAnother();
        boundByTwo();
        promise20Notice();
        promise21Ship();
        promise22OfProject();
        allTenNodesClash();
        promise23Many();
        promise24MeanShare();
        checks.end();
    }
}
