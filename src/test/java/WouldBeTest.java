/** Promises 25 to 30: what would be. None of these calls changes anything. */
public final class WouldBeTest {
    private static final Checks checks = new Checks();

    /** Asks something, and sees that the bank is what it was. */
    private static void due(String what, SnippetBank bank, Checks.Call call, Object want) {
        String before = Checks.stateOf(bank);
        checks.due(what, call.make(), want);
        checks.due("what is left after " + what, Checks.stateOf(bank), before);
    }

    private static void promise25RecalledBy() {
        SnippetBank bank = Checks.withChain();
        bank.licence(1, 0, false, 5);
        bank.licence(0, 0, false, 5);
        for (int project = 0; project < 4; project++) {
            bank.project();
            bank.replace(project, 0, project % 3);
        }
        bank.ship(0);
        bank.ship(1);
        bank.ship(2);
        due("25: all that are shipped", bank, () -> bank.recalledBy(0, 0), 7);
        due("25: those behind", bank, () -> bank.recalledBy(1, 0), 6);
        due("25: the last one", bank, () -> bank.recalledBy(2, 0), 4);
        due("25: nothing is asked", bank, () -> bank.recalledBy(0, 1), 0);
        bank.notice(1, 0, true);
        due("25: the notice is up", bank, () -> bank.recalledBy(0, 0), 5);
        bank.nearness(67);
        due("25: none is near", bank, () -> bank.recalledBy(0, 0), 1);
        bank.nearness(60);
        bank.tell(1, 0);
        due("25: 2 is recalled already", bank, () -> bank.recalledBy(2, 0), 0);
        due("25: it is told in place of the one before", bank, () -> bank.recalledBy(1, 1), 0);
        bank.tell(1, 1);
        bank.ship(2);
        due("25: 2 is shipped again", bank, () -> bank.recalledBy(1, 0), 4);
        bank.tell(1, 0);
        bank.ask(1, 0);
        bank.ship(2);
        due("25: 1 is freed of it", bank, () -> bank.recalledBy(1, 0), 0);
        checks.refused("25: recalledBy(3, 0)", bank, Checks.INDEX, () -> bank.recalledBy(3, 0));
        checks.refused("25: recalledBy(-1, 0)", bank, Checks.INDEX, () -> bank.recalledBy(-1, 0));
        checks.refused("25: recalledBy(0, 2)", bank, Checks.INDEX, () -> bank.recalledBy(0, 2));
        checks.refused("25: recalledBy(0, NONE)", bank, Checks.INDEX, () -> bank.recalledBy(0, -1));
    }

    private static void recalledByClashes() {
        SnippetBank bank = Checks.withStrangers();
        bank.licence(1, 0, false, 0);
        bank.licence(0, 1, true, 0);
        bank.tell(0, 0);
        bank.project();
        bank.notice(0, 0, true);
        bank.node(0, 0, 0);
        bank.node(0, 0, 1);
        bank.ship(0);
        due("25: a clash", bank, () -> bank.recalledBy(1, 1), 1);
        due("25: no clash", bank, () -> bank.recalledBy(1, 0), 0);
        due("25: a piece that is nowhere", bank, () -> bank.recalledBy(2, 1), 0);
        checks.due("25: as tell does then", bank.tell(1, 1), 1);
    }

    /** Strangers: 0 asks what 1 (weak) and 2 (strong) forbid; 3 clashes with itself; 4 has no licence. */
    private static SnippetBank withTerms() {
        SnippetBank bank = Checks.withStrangers();
        bank.licence(1, 0, false, 0);
        bank.licence(0, 1, false, 0);
        bank.licence(0, 1, true, 0);
        bank.licence(2, 2, false, 0);
        for (int piece = 0; piece < 4; piece++) {
            bank.tell(piece, piece);
        }
        bank.project();
        return bank;
    }

    private static void promise26ClashesWith() {
        SnippetBank bank = withTerms();
        bank.node(0, 0, 0);
        bank.node(0, 0, 0);
        bank.node(0, 1, 4);
        due("26: above both", bank, () -> bank.clashesWith(0, 0, 1), 2);
        due("26: below one", bank, () -> bank.clashesWith(0, 3, 1), 1);
        due("26: strong", bank, () -> bank.clashesWith(0, 3, 2), 2);
        due("26: with itself", bank, () -> bank.clashesWith(0, 3, 3), 1);
        due("26: none", bank, () -> bank.clashesWith(0, 3, 4), 0);
        due("26: not with what it has now", bank, () -> bank.clashesWith(0, 1, 2), 1);
        bank.replace(0, 3, 2);
        bank.replace(0, 2, 3);
        checks.due("26: clashes 1-3 and 2", bank.ofProject(0, 2), 2);
        due("26: that of the other node stays", bank, () -> bank.clashesWith(0, 3, 4), 1);
        due("26: its own goes", bank, () -> bank.clashesWith(0, 2, 4), 1);
        due("26: the same piece", bank, () -> bank.clashesWith(0, 3, 2), 2);
        checks.refused("26: clashesWith(1, 0, 0)", bank, Checks.INDEX, () -> bank.clashesWith(1, 0, 0));
        checks.refused("26: clashesWith(-1, 0, 0)", bank, Checks.INDEX, () -> bank.clashesWith(-1, 0, 0));
        checks.refused("26: clashesWith(0, 4, 0)", bank, Checks.INDEX, () -> bank.clashesWith(0, 4, 0));
        checks.refused("26: clashesWith(0, -1, 0)", bank, Checks.INDEX, () -> bank.clashesWith(0, -1, 0));
        checks.refused("26: clashesWith(0, 0, 5)", bank, Checks.INDEX, () -> bank.clashesWith(0, 0, 5));
        checks.refused("26: clashesWith(0, 0, NONE)", bank, Checks.INDEX, () -> bank.clashesWith(0, 0, -1));
    }

    private static void promise27Remedy() {
        SnippetBank bank = withTerms();
        due("27: without clashes", bank, () -> bank.remedy(0), 0);
        bank.node(0, 0, 0);
        bank.node(0, 0, 0);
        due("27: what is owed is no matter", bank, () -> bank.remedy(0), 0);
        bank.node(0, 0, 2);
        due("27: the fewest, 3 alone, not 1 and 2", bank, () -> bank.remedy(0), 8);
        bank.remove(0, 2);
        due("27: of 1 and 3 the smallest", bank, () -> bank.remedy(0), 2);
        bank.replace(0, 0, 3);
        due("27: one that clashes with itself must be empty", bank, () -> bank.remedy(0), 1 + 2);
        checks.refused("27: remedy(1)", bank, Checks.INDEX, () -> bank.remedy(1));
        checks.refused("27: remedy(-1)", bank, Checks.INDEX, () -> bank.remedy(-1));
    }

    private static void remedyOfLine() {
        SnippetBank bank = withTerms();
        bank.replace(0, 0, 1);
        bank.node(0, 0, 0);
        bank.node(0, 1, 1);
        bank.node(0, 2, 0);
        checks.due("27: clashes 0-1, 0-3, 1-2, 2-3", bank.ofProject(0, 2), 4);
        due("27: of 0, 2 and 1, 3 the smallest number", bank, () -> bank.remedy(0), 1 + 4);
        bank.node(0, 3, 1);
        due("27: 1, 3 are fewer now", bank, () -> bank.remedy(0), 2 + 8);
    }

    private static void promise28Substitute() {
        SnippetBank bank = Checks.withChain();
        bank.nearness(100);
        Checks.keepWords(bank, 20, 4);
        bank.licence(1, 0, false, 0);
        bank.licence(0, 1, false, 0);
        bank.licence(2, 2, false, 0);
        bank.project();
        due("28: the node is empty", bank, () -> bank.substitute(0, 0), -1);
        bank.node(0, 0, 0);
        due("28: the greatest share", bank, () -> bank.substitute(0, 1), 1);
        bank.replace(0, 0, 3);
        bank.tell(3, 1);
        bank.tell(0, 0);
        bank.tell(1, 0);
        checks.due("28: a clash", bank.ofProject(0, 2), 1);
        due("28: 1 would clash, too", bank, () -> bank.substitute(0, 1), 2);
        bank.tell(2, 2);
        due("28: 2 would clash with itself, 3 shares nothing", bank, () -> bank.substitute(0, 1), 3);
        bank.tell(3, 2);
        due("28: 3 would with itself, 1 with none", bank, () -> bank.substitute(0, 1), 1);
        bank.tell(1, 2);
        due("28: none, and not the one that is there", bank, () -> bank.substitute(0, 1), -1);
        checks.refused("28: substitute(1, 0)", bank, Checks.INDEX, () -> bank.substitute(1, 0));
        checks.refused("28: substitute(-1, 0)", bank, Checks.INDEX, () -> bank.substitute(-1, 0));
        checks.refused("28: substitute(0, 2)", bank, Checks.INDEX, () -> bank.substitute(0, 2));
        checks.refused("28: substitute(0, -1)", bank, Checks.INDEX, () -> bank.substitute(0, -1));
    }

    private static void substituteOfMany() {
        SnippetBank bank = Checks.withChain();
        bank.project();
        bank.replace(0, 0, 1);
        due("28: of 0 and 2 the smallest number", bank, () -> bank.substitute(0, 0), 0);
        bank.copy(1, 0);
        bank.keep();
        due("28: a copy is another piece", bank, () -> bank.substitute(0, 0), 3);
        bank.replace(0, 0, 3);
        due("28: the other way round", bank, () -> bank.substitute(0, 0), 1);
        SnippetBank lone = new SnippetBank();
        Checks.keepWords(lone, 10, 4);
        lone.project();
        lone.replace(0, 0, 0);
        due("28: there is no other one", lone, () -> lone.substitute(0, 0), -1);
    }

    /** A node that clashes elsewhere in the project does not stand in the way. */
    private static void substituteBesideOtherClashes() {
        SnippetBank bank = withTerms();
        bank.replace(0, 0, 4);
        bank.node(0, 0, 3);
        due("28: the clash of 1 is not one of 0", bank, () -> bank.substitute(0, 0), 0);
        bank.node(0, 0, 2);
        due("28: 0 would clash with 2", bank, () -> bank.substitute(0, 0), 1);
    }

    private static void promise29BoundWith() {
        SnippetBank bank = Checks.withChain();
        bank.licence(0, 0, false, 5);
        bank.licence(0, 0, false, 5);
        due("29: no licences", bank, () -> bank.boundWith(100), 0);
        bank.tell(0, 0);
        due("29: as it is", bank, () -> bank.boundWith(60), 0);
        due("29: 66 is near still", bank, () -> bank.boundWith(66), 0);
        due("29: 66 is not near", bank, () -> bank.boundWith(67), 2);
        due("29: the same sets by other ways", bank, () -> bank.boundWith(33), 0);
        bank.ask(1, 0);
        due("29: 2 would be bound", bank, () -> bank.boundWith(33), 1);
        due("29: 33 is not near", bank, () -> bank.boundWith(34), 0);
        bank.tell(1, 1);
        due("29: 2 would be bound by more", bank, () -> bank.boundWith(1), 1);
        due("29: 2 would be bound by less", bank, () -> bank.boundWith(100), 1);
        checks.refused("29: boundWith(0)", bank, Checks.ARGUMENT, () -> bank.boundWith(0));
        checks.refused("29: boundWith(101)", bank, Checks.ARGUMENT, () -> bank.boundWith(101));
        checks.refused("29: boundWith(-1)", bank, Checks.ARGUMENT, () -> bank.boundWith(-1));
    }

    private static long d;

    private static void fold(long v) {
        d = d * 31 + v;
    }

    private static long digestOf(SnippetBank bank) {
        d = 58109;
        for (int what = 0; what <= 10; what++) fold(bank.many(what));
        for (int piece = 0; piece < bank.many(1); piece++) {
            for (int what = 0; what <= 7; what++) fold(bank.ofPiece(piece, what));
            fold(bank.scan(piece));
            if (piece + 1 < bank.many(1)) fold(bank.share(piece, piece + 1));
        }
        for (int licence = 0; licence < bank.many(2); licence++) {
            for (int what = 0; what <= 5; what++) fold(bank.ofLicence(licence, what));
        }
        for (int project = 0; project < bank.many(3); project++) {
            for (int what = 0; what <= 6; what++) fold(bank.ofProject(project, what));
            fold(bank.remedy(project));
            for (int node = 0; node < 10; node++) {
                if ((bank.ofProject(project, 6) >> node & 1) == 0) continue;
                for (int what = 0; what <= 4; what++) fold(bank.ofNode(project, node, what));
                fold(bank.substitute(project, node));
            }
        }
        fold(bank.boundWith(30));
        fold(bank.boundWith(90));
        return d;
    }

    private static void promise30Digest() {
        d = 58109;
        for (int k = 0; k < 10; k++) fold(0);
        fold(60);
        fold(0);
        fold(0);
        SnippetBank empty = new SnippetBank();
        checks.due("30: digest of a new bank", empty.digest(), d);
        SnippetBank bank = Checks.withChain();
        bank.licence(1, 0, false, 5);
        bank.licence(0, 1, true, 3);
        bank.licence(4, 4, false, 1);
        bank.tell(0, 0);
        bank.tell(2, 2);
        bank.ask(1, 0);
        bank.project();
        bank.node(0, 0, 0);
        bank.node(0, 1, 2);
        bank.node(0, 0, 1);
        bank.remove(0, 1);
        checks.due("30: digest", bank.digest(), digestOf(bank));
        checks.due("30: digest again", bank.digest(), digestOf(bank));
        bank.node(0, 3, 2);
        bank.node(0, 1, 0);
        bank.project();
        bank.ship(1);
        bank.replace(1, 0, 0);
        checks.due("30: digest of more", bank.digest(), digestOf(bank));
    }

    /** The second run that SnippetBankRuns tells, whose digest is known from there. */
    private static void knownDigest() {
        SnippetBank bank = new SnippetBank();
        Checks.write(bank, 10, 11, 12, 13);
        bank.keep();
        Checks.write(bank, 14, 15, 16, 17);
        bank.keep();
        bank.licence(1, 0, false, 1);
        bank.licence(2, 1, false, 0);
        bank.tell(0, 0);
        bank.tell(1, 1);
        bank.project();
        bank.node(0, 0, 0);
        bank.node(0, 0, 1);
        bank.notice(0, 0, true);
        bank.notice(0, 1, true);
        bank.ship(0);
        bank.replace(0, 0, 1);
        bank.ask(0, 0);
        bank.ship(0);
        bank.notice(0, 0, false);
        bank.notice(0, 1, false);
        checks.due("30: digest known from outside", bank.digest(), -7879981354430364642L);
    }

    public static void main(String[] args) {
        promise25RecalledBy();
        recalledByClashes();
        promise26ClashesWith();
        promise27Remedy();
        remedyOfLine();
        promise28Substitute();
        substituteOfMany();
        substituteBesideOtherClashes();
        promise29BoundWith();
        promise30Digest();
        knownDigest();
        checks.end();
    }
}
