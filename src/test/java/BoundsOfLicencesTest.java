/** The sentences of promises 11 to 14 that name a boundary case, each with a test of its own. */
public final class BoundsOfLicencesTest {
    @Says(promise = 11, sentence = "Returns its number")
    static void licencesAreZeroToFive() {
        SnippetBank bank = new SnippetBank();
        for (int licence = 0; licence <= 5; licence++) {
            Bounds.due("licence", bank.licence(31, 31, true, 5), licence);
            Bounds.due("licences", bank.many(2), licence + 1);
        }
    }

    @Says(promise = 11, sentence = "Throws `IllegalArgumentException` if asks or forbids is not 0 to 31, or patience is not 0 to 5")
    static void dutiesAndPatienceOfALicence() {
        for (int set = 0; set <= 31; set++) {
            SnippetBank bank = new SnippetBank();
            Bounds.due("asks " + set, bank.licence(set, 0, false, 0), 0);
            Bounds.due("what it asks", bank.ofLicence(0, 0), set);
            Bounds.due("forbids " + set, bank.licence(0, set, false, 0), 1);
            Bounds.due("what it forbids", bank.ofLicence(1, 1), set);
        }
        for (int patience = 0; patience <= 5; patience++) {
            SnippetBank bank = new SnippetBank();
            Bounds.due("patience " + patience, bank.licence(0, 0, true, patience), 0);
            Bounds.due("its patience", bank.ofLicence(0, 3), patience);
        }
        Bounds.Maker[] makers = {SnippetBank::new, Bounds::small, Bounds::full};
        for (Bounds.Maker maker : makers) {
            Bounds.refusedOutside(0, 31, "asks", maker, Bounds.ARGUMENT, (bank, set) -> bank.licence(set, 0, false, 0));
            Bounds.refusedOutside(0, 31, "forbids", maker, Bounds.ARGUMENT, (bank, set) -> bank.licence(31, set, true, 5));
            Bounds.refusedOutside(0, 5, "patience", maker, Bounds.ARGUMENT, (bank, k) -> bank.licence(31, 31, true, k));
        }
    }

    private static SnippetBank withLicences(int many) {
        SnippetBank bank = Bounds.equals16();
        for (int licence = 0; licence < many; licence++) {
            bank.licence(31, 31, true, 5);
        }
        return bank;
    }

    @Says(promise = 11, sentence = "Throws `IllegalStateException` if there are 6")
    static void sixthLicenceIsTheLast() {
        Bounds.due("a 6th", withLicences(5).licence(0, 0, false, 0), 5);
        Bounds.refused("a 7th of nothing", () -> withLicences(6), Bounds.STATE, bank -> bank.licence(0, 0, false, 0));
        Bounds.refused("a 7th of all", () -> withLicences(6), Bounds.STATE, bank -> bank.licence(31, 31, true, 5));
    }

    @Says(promise = 12, sentence = "0 what it ASKS, 1 what it FORBIDS, 2 1 if it is STRONG, otherwise 0, 3 its PATIENCE")
    static void leastAndGreatestTerms() {
        SnippetBank bank = new SnippetBank();
        bank.licence(0, 31, true, 0);
        bank.licence(31, 0, false, 5);
        int[][] due = {{0, 31, 1, 0}, {31, 0, 0, 5}};
        for (int licence = 0; licence < 2; licence++) {
            for (int what = 0; what <= 3; what++) {
                Bounds.due("ofLicence(" + licence + ", " + what + ")", bank.ofLicence(licence, what), due[licence][what]);
            }
        }
    }

    @Says(promise = 12, sentence = "4 the set of LICENCES with which it CLASHES")
    static void clashesWithNoneAndAll() {
        SnippetBank bank = new SnippetBank();
        for (int licence = 0; licence < 6; licence++) {
            bank.licence(16, 16, false, 0);
            Bounds.due("all there are", bank.ofLicence(0, 4), (2 << licence) - 1);
            Bounds.due("also the new one", bank.ofLicence(licence, 4), (2 << licence) - 1);
        }
        SnippetBank calm = new SnippetBank();
        for (int licence = 0; licence < 6; licence++) {
            calm.licence(licence < 3 ? 31 : 0, 0, true, 0);
        }
        for (int licence = 0; licence < 6; licence++) {
            Bounds.due("none", calm.ofLicence(licence, 4), 0);
        }
    }

    @Says(promise = 12, sentence = "5 how many PIECES are BOUND by it")
    static void bindsNoneToSixteen() {
        SnippetBank bank = new SnippetBank();
        bank.licence(0, 0, false, 0);
        bank.licence(0, 0, false, 1);
        Bounds.due("there is no piece", bank.ofLicence(1, 5), 0);
        Checks.write(bank, 10, 11, 12, 13);
        for (int piece = 0; piece < 16; piece++) {
            bank.keep();
        }
        Bounds.due("none", bank.ofLicence(1, 5), 0);
        for (int piece = 15; piece >= 0; piece--) {
            bank.tell(piece, 1);
            Bounds.due("from " + piece, bank.ofLicence(1, 5), 16 - piece);
        }
        bank.ask(15, 1);
        Bounds.due("one is freed", bank.ofLicence(1, 5), 15);
        Bounds.due("the other licence", bank.ofLicence(0, 5), 0);
    }

    @Says(promise = 12, sentence = "Throws `IndexOutOfBoundsException` if there is no such LICENCE")
    static void ofLicencesThereAre() {
        for (int what = 0; what <= 5; what++) {
            int asked = what;
            Bounds.refusedOutside(0, -1, "none", SnippetBank::new, Bounds.INDEX, (bank, k) -> bank.ofLicence(k, asked));
            Bounds.refusedOutside(0, 1, "small", Bounds::small, Bounds.INDEX, (bank, k) -> bank.ofLicence(k, asked));
            Bounds.refusedOutside(0, 5, "full", Bounds::full, Bounds.INDEX, (bank, k) -> bank.ofLicence(k, asked));
        }
        Bounds.due("the first", Bounds.full().ofLicence(0, 0), 1);
        Bounds.due("the last", Bounds.full().ofLicence(5, 1), 2);
    }

    @Says(promise = 12, sentence = "Throws `IllegalArgumentException` if what is not 0 to 5")
    static void ofLicenceIsAskedZeroToFive() {
        Bounds.due("0", Bounds.small().ofLicence(0, 0), 1);
        Bounds.due("5", Bounds.small().ofLicence(1, 5), 1);
        Bounds.refusedOutside(0, 5, "ofLicence", Bounds::small, Bounds.ARGUMENT, (bank, what) -> bank.ofLicence(1, what));
    }

    @Says(promise = 13, sentence = "Tells the OWN LICENCE of a PIECE, in place of the one before")
    static void toldInPlaceOfTheOneBefore() {
        SnippetBank bank = withLicences(6);
        int[] told = {0, 5, 5, -1, -1, 5, 0};
        for (int licence : told) {
            bank.tell(15, licence);
            Bounds.due("own licence", bank.ofPiece(15, 2), licence);
            Bounds.due("bound", bank.ofPiece(15, 3), licence < 0 ? 0 : 1 << licence);
            Bounds.due("of others", bank.ofPiece(14, 2), -1);
        }
    }

    @Says(promise = 13, sentence = "the LICENCE, or NONE")
    static void noneIsTold() {
        SnippetBank bank = Bounds.equals16();
        Bounds.due("none, without licences", bank.tell(0, -1), 0);
        bank.licence(31, 31, true, 0);
        bank.tell(0, 0);
        Bounds.due("all are bound", bank.ofLicence(0, 5), 16);
        Bounds.due("none in place of one", bank.tell(0, -1), 0);
        Bounds.due("none is bound", bank.ofLicence(0, 5), 0);
        Bounds.asks("none in place of none", Bounds::equals16, 0, other -> other.tell(15, -1));
    }

    /** Piece 15, with a share of 100 with all the others, is in all five projects; they are shipped. */
    private static SnippetBank fiveShipped() {
        SnippetBank bank = withLicences(6);
        Bounds.projectsOf(bank, 15);
        Bounds.shipAll(bank);
        return bank;
    }

    @Says(promise = 13, sentence = "Returns how many PROJECTS are RECALLED by that")
    static void tellRecallsNoneToFive() {
        SnippetBank bank = fiveShipped();
        Bounds.due("none", bank.tell(0, -1), 0);
        Bounds.due("all five", bank.tell(0, 5), 5);
        Bounds.due("they are recalled already", bank.tell(15, 0), 0);
        SnippetBank other = fiveShipped();
        other.replace(0, 0, 14);
        Bounds.due("all but the first", other.tell(15, 0), 4);
        Bounds.due("the first, too", other.tell(14, 0), 1);
        SnippetBank last = fiveShipped();
        last.replace(4, 0, 3);
        Bounds.due("none of those behind", last.tell(15, -1), 0);
        Bounds.due("all in one call", last.tell(3, 1), 5);
    }

    @Says(promise = 13, sentence = "Throws `IndexOutOfBoundsException` if there is no such PIECE, or LICENCE (but NONE)")
    static void toldOfPiecesAndLicencesThereAre() {
        SnippetBank bank = Bounds.full();
        Bounds.due("the last piece, the last licence", bank.tell(15, 5), 0);
        Bounds.due("the last piece, none", bank.tell(15, -1), 0);
        Bounds.due("the first piece, the first licence", bank.tell(0, 0), 0);
        Bounds.refusedOutside(0, 15, "piece, full", Bounds::full, Bounds.INDEX, (b, k) -> b.tell(k, 5));
        Bounds.refusedOutside(0, 15, "piece, none told", Bounds::full, Bounds.INDEX, (b, k) -> b.tell(k, -1));
        Bounds.refusedOutside(-1, 5, "licence, full", Bounds::full, Bounds.INDEX, (b, k) -> b.tell(15, k));
        Bounds.refusedOutside(0, 1, "piece, small", Bounds::small, Bounds.INDEX, (b, k) -> b.tell(k, 0));
        Bounds.refusedOutside(-1, 1, "licence, small", Bounds::small, Bounds.INDEX, (b, k) -> b.tell(0, k));
        Bounds.refusedOutside(-1, -1, "licence, none", Bounds::equals16, Bounds.INDEX, (b, k) -> b.tell(0, k));
        Bounds.refusedOutside(0, -1, "piece, none", SnippetBank::new, Bounds.INDEX, (b, k) -> b.tell(k, -1));
    }

    @Says(promise = 14, sentence = "Returns whether it is granted")
    static void grantedAsOftenAsPatienceLasts() {
        for (int patience = 0; patience <= 5; patience++) {
            SnippetBank bank = Bounds.equals16();
            bank.licence(31, 31, true, patience);
            bank.tell(0, 0);
            for (int k = 0; k < 7; k++) {
                Bounds.due("patience " + patience + ", asked before: " + k, bank.ask(15 - k, 0), k < patience);
                Bounds.due("patience then", bank.ofLicence(0, 3), Math.max(0, patience - k - 1));
                Bounds.due("freed", bank.ofPiece(15 - k, 4), k < patience ? 1 : 0);
                Bounds.due("granted ever", bank.many(9), Math.min(k + 1, patience));
            }
        }
    }

    @Says(promise = 14, sentence = "Throws `IndexOutOfBoundsException` if there is no such PIECE, or LICENCE")
    static void askedForPiecesAndOfLicencesThereAre() {
        Bounds.due("the last piece, the last licence", toldTheLast().ask(15, 5), true);
        Bounds.refusedOutside(0, 15, "piece", BoundsOfLicencesTest::toldTheLast, Bounds.INDEX, (bank, k) -> bank.ask(k, 5));
        Bounds.refusedOutside(0, 5, "licence", BoundsOfLicencesTest::toldTheLast, Bounds.INDEX, (bank, k) -> bank.ask(15, k));
        Bounds.refusedOutside(0, 1, "piece, small", Bounds::small, Bounds.INDEX, (bank, k) -> bank.ask(k, 0));
        Bounds.refusedOutside(0, 1, "licence, small", Bounds::small, Bounds.INDEX, (bank, k) -> bank.ask(0, k));
        Bounds.refusedOutside(0, -1, "none", SnippetBank::new, Bounds.INDEX, (bank, k) -> bank.ask(k, k));
        Bounds.refused("NONE of one that has none", Bounds::equals16, Bounds.INDEX, bank -> bank.ask(0, -1));
    }

    private static SnippetBank toldTheLast() {
        SnippetBank bank = withLicences(6);
        bank.tell(15, 5);
        return bank;
    }

    @Says(promise = 14, sentence = "Throws `IllegalStateException` if the PIECE is not BOUND by it")
    static void askedOnlyIfBound() {
        Bounds.refused("one ahead of it", BoundsOfLicencesTest::toldTheLast, Bounds.STATE, bank -> bank.ask(14, 5));
        Bounds.refused("another licence", BoundsOfLicencesTest::toldTheLast, Bounds.STATE, bank -> bank.ask(15, 4));
        Bounds.refused("the first licence", BoundsOfLicencesTest::toldTheLast, Bounds.STATE, bank -> bank.ask(15, 0));
        Bounds.refused("its own one, but freed", BoundsOfLicencesTest::freedOfItsOwn, Bounds.STATE, bank -> bank.ask(15, 5));
        Bounds.refused("no patience, nor bound", BoundsOfLicencesTest::withoutPatience, Bounds.STATE, bank -> bank.ask(1, 0));
        Bounds.asks("no patience, but bound", BoundsOfLicencesTest::withoutPatience, false, bank -> bank.ask(0, 0));
        Bounds.due("bound from far", lineAt(66).ask(15, 0), true);
        Bounds.due("its own one, near to none", lineAt(67).ask(0, 0), true);
        Bounds.refused("near to none", () -> lineAt(67), Bounds.STATE, bank -> bank.ask(1, 0));
    }

    private static SnippetBank lineAt(int nearness) {
        SnippetBank bank = Bounds.line16();
        bank.licence(0, 0, false, 5);
        bank.tell(0, 0);
        bank.nearness(nearness);
        return bank;
    }

    private static SnippetBank freedOfItsOwn() {
        SnippetBank bank = toldTheLast();
        bank.ask(15, 5);
        return bank;
    }

    private static SnippetBank withoutPatience() {
        SnippetBank bank = Checks.withStrangers();
        bank.licence(1, 1, true, 0);
        bank.tell(0, 0);
        return bank;
    }

    public static void main(String[] args) throws IllegalAccessException {
        Bounds.run(BoundsOfLicencesTest.class);
    }
}
