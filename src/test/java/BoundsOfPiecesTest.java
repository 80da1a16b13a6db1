/** The sentences of promises 1 to 10 that name a boundary case, each with a test of its own. */
public final class BoundsOfPiecesTest {
    @Says(promise = 1, sentence = "Creates a bank without PIECES")
    static void newBankHasNothing() {
        SnippetBank bank = new SnippetBank();
        for (int what = 0; what <= 9; what++) {
            Bounds.due("many(" + what + ")", bank.many(what), 0);
        }
        Bounds.due("nearness", bank.many(10), 60);
        Bounds.due("mean share", bank.meanShare(), 0.0);
        Bounds.due("bound otherwise", bank.boundWith(1), 0);
        Bounds.refused("scan", SnippetBank::new, Bounds.INDEX, other -> other.scan(0));
        Bounds.refused("copy", SnippetBank::new, Bounds.INDEX, other -> other.copy(0, 0));
        Bounds.refused("share", SnippetBank::new, Bounds.INDEX, other -> other.share(0, 0));
        Bounds.refused("ofPiece", SnippetBank::new, Bounds.INDEX, other -> other.ofPiece(0, 0));
        Bounds.refused("tell", SnippetBank::new, Bounds.INDEX, other -> other.tell(0, Bounds.NONE));
        Bounds.refused("keep", SnippetBank::new, Bounds.STATE, SnippetBank::keep);
    }

    @Says(promise = 2, sentence = "Writes a TOKEN at the end of the DRAFT")
    static void writtenAtTheEnd() {
        SnippetBank bank = new SnippetBank();
        int[] row = {29, 0, 10, 9, 29, 28, 27, 0, 1, 2, 3, 4};
        StringBuilder due = new StringBuilder();
        for (int k = 0; k < 12; k++) {
            bank.token(row[k]);
            due.append(k == 0 ? "" : " ").append(row[k]);
            Bounds.due("the draft", Bounds.draftOf(bank), due.toString());
        }
    }

    @Says(promise = 2, sentence = "Returns how many it has then")
    static void oneToTwelveTokens() {
        SnippetBank bank = new SnippetBank();
        for (int k = 1; k <= 12; k++) {
            Bounds.due("token", bank.token(10), k);
        }
        bank.cut(12);
        Bounds.due("the first one again", bank.token(10), 1);
    }

    @Says(promise = 2, sentence = "Throws `IllegalArgumentException` if token is not 0 to 29")
    static void tokenIsZeroTo29() {
        for (int token = 0; token < 30; token++) {
            SnippetBank bank = new SnippetBank();
            Bounds.due("token(" + token + ")", bank.token(token), 1);
            Bounds.due("what was written", bank.draft(0), token);
        }
        Bounds.refusedOutside(0, 29, "token", SnippetBank::new, Bounds.ARGUMENT, SnippetBank::token);
        Bounds.refusedOutside(0, 29, "token, full", Bounds::full, Bounds.ARGUMENT, SnippetBank::token);
    }

    private static SnippetBank withTokens(int many) {
        SnippetBank bank = new SnippetBank();
        Checks.write(bank, Bounds.words(10, many));
        return bank;
    }

    @Says(promise = 2, sentence = "Throws `IllegalStateException` if it has 12")
    static void twelfthTokenIsTheLast() {
        Bounds.due("a 12th", withTokens(11).token(0), 12);
        Bounds.refused("a 13th, the first one there is", () -> withTokens(12), Bounds.STATE, bank -> bank.token(0));
        Bounds.refused("a 13th, the last one there is", () -> withTokens(12), Bounds.STATE, bank -> bank.token(29));
        SnippetBank cut = withTokens(12);
        cut.cut(1);
        Bounds.due("a 12th after a cut", cut.token(0), 12);
        Bounds.due("the row", Bounds.draftOf(cut), "11 12 13 14 15 16 17 18 19 20 21 0");
    }

    @Says(promise = 3, sentence = "Takes TOKENS away from the beginning of the DRAFT")
    static void cutFromTheBeginning() {
        String[] left = {
            "11 12 13 14 15 16 17 18 19 20 21", "12 13 14 15 16 17 18 19 20 21", "13 14 15 16 17 18 19 20 21",
            "14 15 16 17 18 19 20 21", "15 16 17 18 19 20 21", "16 17 18 19 20 21", "17 18 19 20 21", "18 19 20 21",
            "19 20 21", "20 21", "21", "",
        };
        for (int many = 1; many <= 12; many++) {
            SnippetBank bank = withTokens(12);
            Bounds.due("cut(" + many + ")", bank.cut(many), 12 - many);
            Bounds.due("what is left", Bounds.draftOf(bank), left[many - 1]);
        }
    }

    @Says(promise = 3, sentence = "how many at most")
    static void cutOfFewerThanAsked() {
        for (int tokens = 0; tokens <= 12; tokens++) {
            SnippetBank bank = withTokens(tokens);
            Bounds.due("cut(12) of " + tokens, bank.cut(12), 0);
            Bounds.due("nothing is left", bank.many(0), 0);
        }
        Bounds.asks("cut(1) of none", () -> withTokens(0), 0, bank -> bank.cut(1));
        Bounds.due("cut(1) of one", withTokens(1).cut(1), 0);
        Bounds.due("cut(2) of one", withTokens(1).cut(2), 0);
        Bounds.due("cut(1) of two", withTokens(2).cut(1), 1);
    }

    @Says(promise = 3, sentence = "Returns how many it has then")
    static void leftOfEachCut() {
        SnippetBank bank = withTokens(12);
        for (int left = 11; left >= 0; left--) {
            Bounds.due("cut(1)", bank.cut(1), left);
        }
        Bounds.due("cut(1) of none", bank.cut(1), 0);
    }

    @Says(promise = 3, sentence = "Throws `IllegalArgumentException` if many is not 1 to 12")
    static void cutIsOneToTwelve() {
        Bounds.due("1", withTokens(12).cut(1), 11);
        Bounds.due("12", withTokens(12).cut(12), 0);
        Bounds.refusedOutside(1, 12, "cut", () -> withTokens(12), Bounds.ARGUMENT, SnippetBank::cut);
        Bounds.refusedOutside(1, 12, "cut of none", SnippetBank::new, Bounds.ARGUMENT, SnippetBank::cut);
    }

    private static SnippetBank withShortAndLongPiece() {
        SnippetBank bank = new SnippetBank();
        Checks.keep(bank, 0, 9, 10, 29);
        Checks.keep(bank, 0, 1, 2, 3, 4, 5, 6, 7, 8, 9, 10, 29);
        return bank;
    }

    @Says(promise = 4, sentence = "in place of what was there")
    static void copiedInPlaceOfAll() {
        SnippetBank bank = withShortAndLongPiece();
        Bounds.due("4 for 12", bank.copy(0, 0), 4);
        Bounds.due("the short row", Bounds.draftOf(bank), "0 9 10 29");
        Bounds.due("12 for 4", bank.copy(1, 0), 12);
        Bounds.due("the long row", Bounds.draftOf(bank), "0 1 2 3 4 5 6 7 8 9 10 29");
        bank.cut(12);
        Bounds.due("4 for none", bank.copy(0, 0), 4);
        Bounds.due("written on behind", bank.token(5), 5);
        Bounds.due("the piece is as it was", bank.ofPiece(0, 0), 4);
    }

    @Says(promise = 4, sentence = "each NAME is (NAME + shift) % 10 then")
    static void namesWrapAround() {
        for (int shift = 0; shift <= 9; shift++) {
            SnippetBank bank = withShortAndLongPiece();
            Bounds.due("copy", bank.copy(1, shift), 12);
            for (int name = 0; name <= 9; name++) {
                Bounds.due(name + " + " + shift, bank.draft(name), name + shift < 10 ? name + shift : name + shift - 10);
            }
            Bounds.due("the first word", bank.draft(10), 10);
            Bounds.due("the last word", bank.draft(11), 29);
            Bounds.due("it is a copy", bank.scan(1), 100);
        }
    }

    @Says(promise = 4, sentence = "Returns how many TOKENS it has")
    static void copiesOfFourToTwelve() {
        for (int tokens = 4; tokens <= 12; tokens++) {
            SnippetBank bank = withTokens(tokens);
            bank.keep();
            bank.cut(12);
            Bounds.due("copy of " + tokens, bank.copy(0, 9), tokens);
            Bounds.due("the draft", bank.many(0), tokens);
        }
    }

    @Says(promise = 4, sentence = "Throws `IndexOutOfBoundsException` if there is no such PIECE")
    static void copyOfEachPieceThereIs() {
        SnippetBank bank = withShortAndLongPiece();
        Bounds.due("the first", bank.copy(0, 0), 4);
        Bounds.due("the last", bank.copy(1, 0), 12);
        Bounds.due("the 16th", Bounds.full().copy(15, 0), 12);
        Bounds.refusedOutside(0, 1, "copy", BoundsOfPiecesTest::withShortAndLongPiece, Bounds.INDEX, (b, k) -> b.copy(k, 0));
        Bounds.refusedOutside(0, 15, "copy, full", Bounds::full, Bounds.INDEX, (b, k) -> b.copy(k, 0));
        Bounds.refusedOutside(0, -1, "copy, none", SnippetBank::new, Bounds.INDEX, (b, k) -> b.copy(k, 0));
    }

    @Says(promise = 4, sentence = "Throws `IllegalArgumentException` if shift is not 0 to 9")
    static void shiftIsZeroToNine() {
        SnippetBank bank = withShortAndLongPiece();
        bank.copy(0, 0);
        Bounds.due("0", Bounds.draftOf(bank), "0 9 10 29");
        bank.copy(0, 9);
        Bounds.due("9", Bounds.draftOf(bank), "9 8 10 29");
        Bounds.refusedOutside(0, 9, "copy", BoundsOfPiecesTest::withShortAndLongPiece, Bounds.ARGUMENT, (b, k) -> b.copy(0, k));
    }

    @Says(promise = 5, sentence = "it stays in the DRAFT, too")
    static void keptRowStaysInTheDraft() {
        SnippetBank bank = withTokens(4);
        bank.keep();
        Bounds.due("4", Bounds.draftOf(bank), "10 11 12 13");
        Checks.write(bank, Bounds.words(10, 12));
        bank.keep();
        Bounds.due("12", Bounds.draftOf(bank), "10 11 12 13 14 15 16 17 18 19 20 21");
        bank.cut(11);
        bank.token(0);
        bank.copy(1, 0);
        Bounds.due("what comes later is not in the piece", Bounds.draftOf(bank), "10 11 12 13 14 15 16 17 18 19 20 21");
    }

    @Says(promise = 5, sentence = "Returns its number")
    static void piecesAreZeroToFifteen() {
        SnippetBank bank = withTokens(4);
        for (int piece = 0; piece <= 15; piece++) {
            Bounds.due("keep", bank.keep(), piece);
        }
    }

    private static SnippetBank withPieces(int many, int tokens) {
        SnippetBank bank = withTokens(4);
        for (int piece = 0; piece < many; piece++) {
            bank.keep();
        }
        Checks.write(bank, Bounds.words(10, tokens));
        return bank;
    }

    @Says(promise = 5, sentence = "Throws `IllegalStateException` if it has fewer than 4 TOKENS, or there are 16")
    static void fourTokensAndSixteenPieces() {
        for (int tokens = 0; tokens <= 3; tokens++) {
            int few = tokens;
            Bounds.refused("keep of " + few, () -> withPieces(0, few), Bounds.STATE, SnippetBank::keep);
            Bounds.refused("a 16th of " + few, () -> withPieces(15, few), Bounds.STATE, SnippetBank::keep);
            Bounds.refused("a 17th of " + few, () -> withPieces(16, few), Bounds.STATE, SnippetBank::keep);
        }
        for (int tokens = 4; tokens <= 12; tokens++) {
            int enough = tokens;
            Bounds.due("the first of " + enough, withPieces(0, enough).keep(), 0);
            Bounds.due("a 16th of " + enough, withPieces(15, enough).keep(), 15);
            Bounds.refused("a 17th of " + enough, () -> withPieces(16, enough), Bounds.STATE, SnippetBank::keep);
        }
        Bounds.due("4 that are left of 12", afterCut(8).keep(), 0);
        Bounds.refused("3 that are left of 12", () -> afterCut(9), Bounds.STATE, SnippetBank::keep);
    }

    @Says(promise = 6, sentence = "a place in the DRAFT, from 0")
    static void placesFromZero() {
        SnippetBank bank = withTokens(12);
        Bounds.due("the first", bank.draft(0), 10);
        Bounds.due("the last", bank.draft(11), 21);
        bank.cut(11);
        Bounds.due("the only one", bank.draft(0), 21);
    }

    @Says(promise = 6, sentence = "Throws `IndexOutOfBoundsException` if there is no such place")
    static void placesThatAreThere() {
        for (int tokens = 0; tokens <= 12; tokens++) {
            int many = tokens;
            Bounds.refusedOutside(0, many - 1, "draft of " + many, () -> withTokens(many), Bounds.INDEX, SnippetBank::draft);
        }
        Bounds.due("the last of 12", withTokens(12).draft(11), 21);
        Bounds.due("the first of 1", withTokens(1).draft(0), 10);
        // What was cut away, or stood there before a shorter row was copied, is no place any more.
        Bounds.refused("behind a cut", () -> afterCut(11), Bounds.INDEX, bank -> bank.draft(1));
        Bounds.refused("behind a copy", BoundsOfPiecesTest::afterCopy, Bounds.INDEX, bank -> bank.draft(4));
    }

    private static SnippetBank afterCut(int many) {
        SnippetBank bank = withTokens(12);
        bank.cut(many);
        return bank;
    }

    private static SnippetBank afterCopy() {
        SnippetBank bank = withShortAndLongPiece();
        bank.copy(0, 0);
        return bank;
    }

    @Says(promise = 7, sentence = "0 if the DRAFT has fewer than 4 TOKENS")
    static void scanOfFewTokens() {
        int[] due = {0, 0, 0, 0, 100};
        for (int tokens = 0; tokens <= 4; tokens++) {
            int many = tokens;
            Bounds.asks("scan of " + many, () -> withPieces(1, many), due[many], bank -> bank.scan(0));
        }
        SnippetBank cut = withPieces(1, 4);
        cut.cut(1);
        Bounds.due("scan of 3 that are left", cut.scan(0), 0);
        cut.cut(3);
        Bounds.due("scan of none that is left", cut.scan(0), 0);
    }

    @Says(promise = 7, sentence = "Returns the SHARE of the DRAFT and that")
    static void scanOfNoneToAll() {
        SnippetBank bank = Bounds.line16();
        bank.copy(0, 0);
        Bounds.due("all", bank.scan(0), 100);
        Bounds.due("2 of 3", bank.scan(1), 66);
        Bounds.due("1 of 3", bank.scan(2), 33);
        Bounds.due("none", bank.scan(3), 0);
        Bounds.due("none of the last one", bank.scan(15), 0);
    }

    @Says(promise = 7, sentence = "Throws `IndexOutOfBoundsException` if there is no such PIECE")
    static void scanOfEachPieceThereIs() {
        Bounds.due("the first", Bounds.equals16().scan(0), 100);
        Bounds.due("the last", Bounds.equals16().scan(15), 100);
        Bounds.refusedOutside(0, 15, "scan, full", Bounds::equals16, Bounds.INDEX, SnippetBank::scan);
        Bounds.refusedOutside(0, 1, "scan, small", Bounds::small, Bounds.INDEX, SnippetBank::scan);
        Bounds.refusedOutside(0, -1, "scan, none", () -> withTokens(12), Bounds.INDEX, SnippetBank::scan);
        Bounds.refusedOutside(0, 0, "scan, few tokens", () -> withPieces(1, 3), Bounds.INDEX, SnippetBank::scan);
    }

    @Says(promise = 8, sentence = "Returns their SHARE")
    static void sharesOfFirstAndLast() {
        SnippetBank bank = Bounds.line16();
        for (int one = 0; one < 16; one++) {
            for (int other = 0; other < 16; other++) {
                int apart = Math.abs(one - other);
                int due = apart == 0 ? 100 : apart == 1 ? 66 : apart == 2 ? 33 : 0;
                Bounds.due("share(" + one + ", " + other + ")", bank.share(one, other), due);
            }
        }
    }

    @Says(promise = 8, sentence = "Throws `IndexOutOfBoundsException` if there is no such PIECE")
    static void shareOfPiecesThereAre() {
        Bounds.due("the first and the last", Bounds.equals16().share(0, 15), 100);
        Bounds.due("the last and the first", Bounds.equals16().share(15, 0), 100);
        Bounds.refusedOutside(0, 15, "the one, full", Bounds::equals16, Bounds.INDEX, (bank, k) -> bank.share(k, 0));
        Bounds.refusedOutside(0, 15, "the other, full", Bounds::equals16, Bounds.INDEX, (bank, k) -> bank.share(0, k));
        Bounds.refusedOutside(0, 1, "the one", Bounds::small, Bounds.INDEX, (bank, k) -> bank.share(k, 1));
        Bounds.refusedOutside(0, 1, "the other", Bounds::small, Bounds.INDEX, (bank, k) -> bank.share(1, k));
        Bounds.refusedOutside(0, -1, "both, none", SnippetBank::new, Bounds.INDEX, (bank, k) -> bank.share(k, k));
    }

    @Says(promise = 9, sentence = "0 how many TOKENS it has, 1 how many PRINTS, 2 its OWN LICENCE (NONE)")
    static void fewestAndMostTokensAndPrints() {
        for (int tokens = 4; tokens <= 12; tokens++) {
            SnippetBank bank = withTokens(tokens);
            bank.keep();
            Bounds.due("tokens", bank.ofPiece(0, 0), tokens);
            Bounds.due("prints", bank.ofPiece(0, 1), tokens - 3);
            Bounds.due("no own licence", bank.ofPiece(0, 2), -1);
        }
        SnippetBank bank = Bounds.full();
        Bounds.due("the first licence", bank.ofPiece(0, 2), 0);
        Bounds.due("the last licence", bank.ofPiece(15, 2), 5);
        Bounds.due("none between", bank.ofPiece(14, 2), -1);
    }

    @Says(promise = 9, sentence = "3 the set of those by which it is BOUND, 4 the set of those of which it is FREED")
    static void boundAndFreedOfNoneAndAll() {
        SnippetBank bank = Bounds.equals16();
        for (int licence = 0; licence < 6; licence++) {
            Bounds.due("bound by those told", bank.ofPiece(15, 3), (1 << licence) - 1);
            bank.licence(0, 0, false, 1);
            bank.tell(licence, licence);
        }
        for (int licence = 0; licence < 6; licence++) {
            Bounds.due("freed of those asked", bank.ofPiece(15, 4), (1 << licence) - 1);
            Bounds.due("bound by the others", bank.ofPiece(15, 3), 63 - ((1 << licence) - 1));
            bank.ask(15, licence);
        }
        Bounds.due("freed of all", bank.ofPiece(15, 4), 63);
        Bounds.due("bound by none", bank.ofPiece(15, 3), 0);
        Bounds.due("the one before is freed of none", bank.ofPiece(14, 4), 0);
        Bounds.due("and bound by all", bank.ofPiece(14, 3), 63);
    }

    @Says(promise = 9, sentence = "5 the set of PIECES from which it COMES, 6 the set of those that COME FROM it")
    static void comesFromNoneAndAll() {
        SnippetBank bank = Bounds.equals16();
        SnippetBank apart = Bounds.strangers16();
        for (int piece = 0; piece < 16; piece++) {
            Bounds.due("from all before", bank.ofPiece(piece, 5), (1 << piece) - 1);
            Bounds.due("all behind", bank.ofPiece(piece, 6), 65536 - (2 << piece));
            Bounds.due("from none", apart.ofPiece(piece, 5), 0);
            Bounds.due("none", apart.ofPiece(piece, 6), 0);
        }
    }

    @Says(promise = 9, sentence = "7 in how many NODES of all PROJECTS it is")
    static void inNoneToFiftyNodes() {
        SnippetBank bank = Bounds.equals16();
        Bounds.due("no project", bank.ofPiece(15, 7), 0);
        for (int project = 0; project < 5; project++) {
            bank.project();
            Bounds.due("an empty root", bank.ofPiece(15, 7), project * 10);
            bank.replace(project, 0, 15);
            for (int node = 1; node < 10; node++) {
                bank.node(project, 0, 15);
            }
            Bounds.due("ten more", bank.ofPiece(15, 7), project * 10 + 10);
        }
        bank.replace(4, 9, 0);
        Bounds.due("49", bank.ofPiece(15, 7), 49);
        Bounds.due("the first piece", bank.ofPiece(0, 7), 1);
        bank.remove(0, 9);
        Bounds.due("48", bank.ofPiece(15, 7), 48);
    }

    @Says(promise = 9, sentence = "Throws `IndexOutOfBoundsException` if there is no such PIECE")
    static void ofPiecesThereAre() {
        for (int what = 0; what <= 7; what++) {
            int asked = what;
            Bounds.refusedOutside(0, 1, "ofPiece, small", Bounds::small, Bounds.INDEX, (bank, k) -> bank.ofPiece(k, asked));
            Bounds.refusedOutside(0, -1, "ofPiece, none", SnippetBank::new, Bounds.INDEX, (bank, k) -> bank.ofPiece(k, asked));
        }
        Bounds.refusedOutside(0, 15, "ofPiece, full", Bounds::full, Bounds.INDEX, (bank, k) -> bank.ofPiece(k, 7));
        Bounds.due("the last one", Bounds.full().ofPiece(15, 0), 12);
        Bounds.due("the first one", Bounds.full().ofPiece(0, 0), 12);
    }

    @Says(promise = 9, sentence = "Throws `IllegalArgumentException` if what is not 0 to 7")
    static void ofPieceIsAskedZeroToSeven() {
        Bounds.due("0", Bounds.small().ofPiece(1, 0), 4);
        Bounds.due("7", Bounds.small().ofPiece(0, 7), 1);
        Bounds.refusedOutside(0, 7, "ofPiece", Bounds::small, Bounds.ARGUMENT, (bank, what) -> bank.ofPiece(1, what));
    }

    /** Piece 1, with a share of 66 with 0, which asks, is in all five projects; they are shipped. */
    private static SnippetBank fiveShipped() {
        SnippetBank bank = Bounds.line16();
        bank.licence(16, 0, false, 0);
        bank.tell(0, 0);
        bank.nearness(67);
        Bounds.projectsOf(bank, 1);
        Bounds.shipAll(bank);
        return bank;
    }

    @Says(promise = 10, sentence = "Returns how many PROJECTS are RECALLED by that")
    static void nearnessRecallsNoneToFive() {
        SnippetBank bank = fiveShipped();
        Bounds.due("the same again", bank.nearness(67), 0);
        Bounds.due("all five", bank.nearness(66), 5);
        Bounds.due("they are recalled already", bank.nearness(1), 0);
        SnippetBank noticed = fiveShipped();
        for (int project = 0; project < 5; project++) {
            noticed.notice(project, 4, project != 4);
        }
        Bounds.due("the last one alone", noticed.nearness(1), 1);
        Bounds.due("its state", noticed.ofProject(4, 0), 2);
        Bounds.due("the state of the one before", noticed.ofProject(3, 0), 1);
    }

    @Says(promise = 10, sentence = "NEARNESS from now on")
    static void nearnessStaysUntilItIsToldAgain() {
        SnippetBank bank = new SnippetBank();
        bank.nearness(100);
        Checks.keep(bank, Bounds.words(10, 6));
        Checks.keep(bank, Bounds.words(11, 6));
        Bounds.due("for pieces that are kept later", bank.ofPiece(1, 5), 0);
        bank.nearness(1);
        Bounds.due("for those that are there", bank.ofPiece(1, 5), 1);
        Bounds.due("what it is", bank.many(10), 1);
    }

    @Says(promise = 10, sentence = "Throws `IllegalArgumentException` if nearness is not 1 to 100")
    static void nearnessIsOneToHundred() {
        SnippetBank bank = new SnippetBank();
        for (int nearness = 1; nearness <= 100; nearness++) {
            Bounds.due("nearness(" + nearness + ")", bank.nearness(nearness), 0);
            Bounds.due("many(10)", bank.many(10), nearness);
        }
        Bounds.refusedOutside(1, 100, "nearness", SnippetBank::new, Bounds.ARGUMENT, SnippetBank::nearness);
        Bounds.refusedOutside(1, 100, "nearness, shipped", BoundsOfPiecesTest::fiveShipped, Bounds.ARGUMENT, SnippetBank::nearness);
    }

    public static void main(String[] args) throws IllegalAccessException {
        Bounds.run(BoundsOfPiecesTest.class);
    }
}
