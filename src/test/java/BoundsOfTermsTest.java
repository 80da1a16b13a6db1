/** The sentences that stand ahead of the promises and name a boundary case, each with a test of its own. */
public final class BoundsOfTermsTest {
    @Says(promise = 0, sentence = "An object is used for at most 512 calls after it has been made")
    static void lastCallOfAllAnswersAsTheOthers() {
        SnippetBank bank = new SnippetBank();
        for (int token = 10; token < 14; token++) {
            bank.token(token);
        }
        bank.keep();
        bank.licence(1, 0, false, 0);
        bank.tell(0, 0);
        bank.project();
        bank.replace(0, 0, 0);
        int calls = 9;
        int recalls = 0;
        while (calls + 3 <= 510) {
            bank.notice(0, 0, true);
            bank.ship(0);
            bank.notice(0, 0, false);
            recalls++;
            calls += 3;
        }
        Bounds.due("call 511", bank.many(6), 1);
        Bounds.due("calls before the last one", calls + 1, 510 + 1);
        Bounds.due("call 512", bank.ofProject(0, 5), recalls);
        SnippetBank asked = Bounds.full();
        long first = asked.digest();
        for (int call = 0; call < 330; call++) {
            asked.digest();
        }
        Bounds.due("the dearest call at the end", asked.digest(), first);
    }

    @Says(promise = 0, sentence = "/ is cut")
    static void sharesAreCut() {
        Bounds.due("2 * 100 / 3", Bounds.shareOf(Bounds.words(10, 6), Bounds.words(11, 6)), 66);
        Bounds.due("1 * 100 / 3", Bounds.shareOf(Bounds.words(10, 6), Bounds.words(12, 6)), 33);
        Bounds.due("8 * 100 / 9", Bounds.shareOf(Bounds.words(10, 12), Bounds.words(11, 12)), 88);
        Bounds.due("1 * 100 / 9", Bounds.shareOf(Bounds.words(10, 12), Bounds.words(18, 12)), 11);
    }

    @Says(promise = 0, sentence = "NONE is -1")
    static void noneIsMinusOne() {
        SnippetBank bank = Checks.withStrangers();
        bank.project();
        Bounds.due("no own licence", bank.ofPiece(0, 2), -1);
        Bounds.due("no parent", bank.ofNode(0, 0, 0), -1);
        Bounds.due("no piece", bank.ofNode(0, 0, 1), -1);
        Bounds.due("no piece before", bank.replace(0, 0, -1), -1);
        Bounds.due("no substitute", bank.substitute(0, 0), -1);
        Bounds.due("a node without a piece", bank.node(0, 0, -1), 1);
        Bounds.due("no licence is told", bank.tell(0, -1), 0);
    }

    @Says(promise = 0, sentence = "Sets are told as numbers: the sum of 2^k for each k in them")
    static void emptyAndFullSets() {
        SnippetBank bank = Bounds.line16();
        Bounds.due("no piece", bank.ofPiece(0, 5), 0);
        Bounds.due("0 to 14", bank.ofPiece(15, 5), 32767);
        Bounds.due("1 to 15", bank.ofPiece(0, 6), 65534);
        Bounds.due("15 alone", bank.ofPiece(14, 6), 32768);
        Bounds.due("no piece behind the last one", bank.ofPiece(15, 6), 0);
        Bounds.tenInLine(bank);
        Bounds.due("all ten nodes", bank.ofProject(0, 6), 1023);
        bank.remove(0, 1);
        Bounds.due("the root alone", bank.ofProject(0, 6), 1);
        bank.notice(0, 4, true);
        Bounds.due("duty 4 alone", bank.ofProject(0, 4), 16);
    }

    @Says(promise = 0, sentence = "TOKENS are 0 to 29: 0 to 9 are NAMES, 10 to 29 WORDS")
    static void lastNameAndFirstWord() {
        Bounds.due("0 and 9 are names", Bounds.shareOf(new int[] {0, 11, 12, 13}, new int[] {9, 11, 12, 13}), 100);
        Bounds.due("10 is none", Bounds.shareOf(new int[] {9, 11, 12, 13}, new int[] {10, 11, 12, 13}), 0);
        Bounds.due("10 is a word", Bounds.shareOf(new int[] {10, 11, 12, 13}, new int[] {14, 11, 12, 13}), 0);
        Bounds.due("29 is a word", Bounds.shareOf(new int[] {29, 11, 12, 13}, new int[] {28, 11, 12, 13}), 0);
        Bounds.due("a word is the same one", Bounds.shareOf(new int[] {10, 29, 10, 29}, new int[] {10, 29, 10, 29}), 100);
        SnippetBank bank = new SnippetBank();
        Checks.keep(bank, 0, 9, 10, 29);
        bank.copy(0, 1);
        Bounds.due("names are changed, words are not", Bounds.draftOf(bank), "1 0 10 29");
    }

    @Says(promise = 0, sentence = "The DRAFT is a row of at most 12 TOKENS")
    static void draftOfTwelve() {
        SnippetBank bank = new SnippetBank();
        Bounds.due("none at first", bank.many(0), 0);
        Checks.write(bank, Bounds.words(10, 12));
        Bounds.due("12", bank.many(0), 12);
        bank.keep();
        Bounds.due("12 come back", bank.copy(0, 0), 12);
        Bounds.due("the row", Bounds.draftOf(bank), "10 11 12 13 14 15 16 17 18 19 20 21");
        bank.cut(1);
        Bounds.due("12 again", bank.token(0), 12);
        Bounds.refused("a 13th", Bounds::full, Bounds.STATE, full -> full.token(0));
    }

    @Says(promise = 0, sentence = "It can be KEPT as a PIECE, if it has 4 at least: at most 16 PIECES, numbered from 0")
    static void sixteenPiecesOfFourAtLeast() {
        SnippetBank bank = new SnippetBank();
        Checks.write(bank, 10, 11, 12, 13);
        for (int piece = 0; piece < 16; piece++) {
            Bounds.due("piece " + piece, bank.keep(), piece);
            Bounds.due("pieces", bank.many(1), piece + 1);
        }
        Bounds.due("tokens of the last one", bank.ofPiece(15, 0), 4);
        Bounds.refused("a 17th", Bounds::equals16, Bounds.STATE, SnippetBank::keep);
        Bounds.refused("one of 3", BoundsOfTermsTest::withThreeTokens, Bounds.STATE, SnippetBank::keep);
    }

    private static SnippetBank withThreeTokens() {
        SnippetBank bank = new SnippetBank();
        Checks.write(bank, 10, 11, 12);
        return bank;
    }

    /** All ways in which four names can be the same or others among each other. */
    private static final int[][] FOUR_NAMES = {
        {0, 0, 0, 0}, {0, 0, 0, 1}, {0, 0, 1, 0}, {0, 0, 1, 1}, {0, 0, 1, 2}, {0, 1, 0, 0}, {0, 1, 0, 1}, {0, 1, 0, 2},
        {0, 1, 1, 0}, {0, 1, 1, 1}, {0, 1, 1, 2}, {0, 1, 2, 0}, {0, 1, 2, 1}, {0, 1, 2, 2}, {0, 1, 2, 3},
    };

    @Says(promise = 0, sentence = "(the first one is 0, the next other one is 1, and so on)")
    static void oneToFourNamesInOnePrint() {
        for (int one = 0; one < FOUR_NAMES.length; one++) {
            SnippetBank bank = new SnippetBank();
            for (int[] row : FOUR_NAMES) {
                Checks.keep(bank, row);
            }
            int[] row = FOUR_NAMES[one];
            // 3, 0, 7, 4: other names, and not in their order; then once more at the end of a long row.
            int[] others = {(row[0] * 7 + 3) % 10, (row[1] * 7 + 3) % 10, (row[2] * 7 + 3) % 10, (row[3] * 7 + 3) % 10};
            int[] atTheEnd = {10, 11, 12, 13, 14, 15, 16, 17, others[0], others[1], others[2], others[3]};
            for (int other = 0; other < FOUR_NAMES.length; other++) {
                int due = one == other ? 100 : 0;
                Checks.write(bank, others);
                Bounds.due("names of " + one + " and " + other, bank.scan(other), due);
                Checks.write(bank, atTheEnd);
                Bounds.due("names of " + one + " at the end and " + other, bank.scan(other), due);
            }
        }
    }

    @Says(promise = 0, sentence = "if they have the same WORDS at the same places, NAMES at the same places")
    static void noneToFourNamesAmongWords() {
        SnippetBank bank = new SnippetBank();
        for (int set = 0; set < 16; set++) {
            int[] row = new int[4];
            for (int place = 0; place < 4; place++) {
                row[place] = (set >> place & 1) == 1 ? 0 : 10;
            }
            Checks.keep(bank, row);
        }
        for (int one = 0; one < 16; one++) {
            for (int other = 0; other < 16; other++) {
                Bounds.due("places " + one + " and " + other, bank.share(one, other), one == other ? 100 : 0);
            }
        }
    }

    @Says(promise = 0, sentence = "(each PRINT counts once)")
    static void oneToNinePrints() {
        SnippetBank bank = new SnippetBank();
        Checks.keep(bank, 10, 10, 10, 10, 10, 10, 10, 10, 10, 10, 10, 10);
        Checks.keep(bank, Bounds.words(10, 12));
        Checks.keep(bank, 0, 1, 2, 3, 4, 5, 6, 7, 8, 9, 0, 1);
        Checks.keep(bank, 10, 10, 10, 10, 11);
        Bounds.due("one, nine times", bank.ofPiece(0, 1), 1);
        Bounds.due("nine", bank.ofPiece(1, 1), 9);
        Bounds.due("one, nine times, of other names", bank.ofPiece(2, 1), 1);
        Bounds.due("it is 1 of 1, not 9 of 2", bank.share(0, 3), 100);
    }

    @Says(promise = 0, sentence = "how many PRINTS both have, * 100 / how many the one has that has fewer")
    static void leastAndGreatestShare() {
        Bounds.due("none", Bounds.shareOf(Bounds.words(10, 4), Bounds.words(11, 4)), 0);
        Bounds.due("1 of 1", Bounds.shareOf(Bounds.words(10, 4), Bounds.words(10, 4)), 100);
        Bounds.due("9 of 9", Bounds.shareOf(Bounds.words(10, 12), Bounds.words(10, 12)), 100);
        Bounds.due("1 of 1 and of 9, the first one", Bounds.shareOf(Bounds.words(10, 4), Bounds.words(10, 12)), 100);
        Bounds.due("1 of 1 and of 9, the last one", Bounds.shareOf(Bounds.words(10, 12), Bounds.words(18, 4)), 100);
        Bounds.due("1 of 2 and of 9", Bounds.shareOf(Bounds.words(9, 5), Bounds.words(10, 12)), 50);
    }

    /** 0 and 1 have a share of 60, 2 and 3 one of 57, 4 and 5 one of 62. */
    private static SnippetBank roundSixty() {
        SnippetBank bank = new SnippetBank();
        Checks.keep(bank, Bounds.words(10, 8));
        Checks.keep(bank, Bounds.words(12, 8));
        Checks.keep(bank, 20, 10, 21, 10, 22, 10, 23, 10, 24, 10);
        Checks.keep(bank, 10, 22, 10, 23, 10, 24, 10, 25, 10, 26);
        Checks.keep(bank, 15, 11, 16, 11, 17, 11, 18, 11, 19, 11, 20);
        Checks.keep(bank, 11, 17, 11, 18, 11, 19, 11, 20, 11, 21, 11);
        return bank;
    }

    @Says(promise = 0, sentence = "Two PIECES are NEAR, if their SHARE is NEARNESS, or more (1 to 100; 60, at first)")
    static void nearAtNearnessAndAbove() {
        SnippetBank bank = roundSixty();
        int[] shares = {60, 57, 62};
        for (int k = 0; k < 3; k++) {
            Bounds.due("share", bank.share(2 * k + 1, 2 * k), shares[k]);
            Bounds.due(shares[k] + " at first", bank.ofPiece(2 * k + 1, 5), shares[k] >= 60 ? 1 << 2 * k : 0);
            bank.nearness(shares[k]);
            Bounds.due("at " + shares[k], bank.ofPiece(2 * k + 1, 5), 1 << 2 * k);
            bank.nearness(shares[k] + 1);
            Bounds.due("above " + shares[k], bank.ofPiece(2 * k + 1, 5), 0);
            bank.nearness(60);
        }
        bank.nearness(1);
        Bounds.due("a share of 0 is never near", bank.ofPiece(2, 5), 0);
        SnippetBank copies = Bounds.equals16();
        copies.nearness(100);
        Bounds.due("a share of 100 is always near", copies.ofPiece(15, 5), 32767);
    }

    @Says(promise = 0, sentence = "A PIECE COMES FROM each one with a smaller number that is NEAR to it, and from all from which this COMES")
    static void comesFromNoneOneAndAll() {
        SnippetBank bank = Bounds.line16();
        for (int piece = 0; piece < 16; piece++) {
            Bounds.due("not from itself, nor from later ones: " + piece, bank.ofPiece(piece, 5), (1 << piece) - 1);
        }
        bank.nearness(67);
        for (int piece = 0; piece < 16; piece++) {
            Bounds.due("from none: " + piece, bank.ofPiece(piece, 5), 0);
        }
        SnippetBank two = Checks.withStrangers();
        Checks.keep(two, 14, 15, 16, 17, 0, 22, 23, 24, 25);
        Bounds.due("from 1 and 3, not from what is between", two.ofPiece(5, 5), 2 + 8);
    }

    @Says(promise = 0, sentence = "LICENCES: at most 6, numbered from 0, each ASKS a set of DUTIES, 0 to 4, FORBIDS one (a DUTY can be in both), is STRONG or not, and has a PATIENCE, 0 to 5")
    static void sixLicences() {
        SnippetBank bank = new SnippetBank();
        int[] sets = {0, 1, 16, 31, 17, 30};
        for (int licence = 0; licence < 6; licence++) {
            boolean isStrong = licence % 2 == 1;
            Bounds.due("its number", bank.licence(sets[licence], sets[5 - licence], isStrong, licence), licence);
        }
        for (int licence = 0; licence < 6; licence++) {
            Bounds.due("asks", bank.ofLicence(licence, 0), sets[licence]);
            Bounds.due("forbids", bank.ofLicence(licence, 1), sets[5 - licence]);
            Bounds.due("strong", bank.ofLicence(licence, 2), licence % 2);
            Bounds.due("patience", bank.ofLicence(licence, 3), licence);
        }
        Bounds.refused("a 7th", Bounds::full, Bounds.STATE, full -> full.licence(0, 0, false, 0));
    }

    @Says(promise = 0, sentence = "Two LICENCES CLASH, if one ASKS what the other one FORBIDS")
    static void clashOfEachDuty() {
        for (int duty = 0; duty < 5; duty++) {
            SnippetBank bank = new SnippetBank();
            bank.licence(1 << duty, 0, false, 0);
            bank.licence(0, 1 << duty, false, 0);
            bank.licence(31 - (1 << duty), 0, false, 0);
            bank.licence(0, 31 - (1 << duty), false, 0);
            bank.licence(1 << duty, 0, true, 0);
            bank.licence(0, 0, true, 0);
            Bounds.due("asks " + duty, bank.ofLicence(0, 4), 2);
            Bounds.due("forbids " + duty, bank.ofLicence(1, 4), 1 + 16);
            Bounds.due("asks the four others", bank.ofLicence(2, 4), 8);
            Bounds.due("forbids the four others", bank.ofLicence(3, 4), 4);
            Bounds.due("neither asks nor forbids", bank.ofLicence(5, 4), 0);
        }
    }

    @Says(promise = 0, sentence = "A LICENCE can CLASH with itself")
    static void licenceAgainstItself() {
        SnippetBank bank = new SnippetBank();
        bank.licence(31, 0, true, 0);
        Bounds.due("asks all, forbids nothing", bank.ofLicence(0, 4), 0);
        SnippetBank other = new SnippetBank();
        other.licence(15, 16, true, 0);
        Bounds.due("asks all but what it forbids", other.ofLicence(0, 4), 0);
        SnippetBank first = new SnippetBank();
        first.licence(1, 1, false, 0);
        Bounds.due("duty 0 in both", first.ofLicence(0, 4), 1);
        SnippetBank last = new SnippetBank();
        last.licence(16, 16, false, 0);
        Bounds.due("duty 4 in both", last.ofLicence(0, 4), 1);
    }

    @Says(promise = 0, sentence = "A PIECE has a LICENCE of its OWN, as soon as one is told (NONE, at first), and can be FREED of some")
    static void noLicenceAtFirst() {
        SnippetBank bank = Bounds.equals16();
        for (int licence = 0; licence < 6; licence++) {
            bank.licence(0, 0, false, 1);
        }
        for (int piece = 0; piece < 16; piece += 15) {
            Bounds.due("own licence of " + piece, bank.ofPiece(piece, 2), -1);
            Bounds.due("bound by none: " + piece, bank.ofPiece(piece, 3), 0);
            Bounds.due("freed of none: " + piece, bank.ofPiece(piece, 4), 0);
        }
        bank.tell(15, 0);
        Bounds.due("the first licence", bank.ofPiece(15, 2), 0);
        bank.tell(15, 5);
        Bounds.due("the last licence", bank.ofPiece(15, 2), 5);
        bank.tell(15, -1);
        Bounds.due("none again", bank.ofPiece(15, 2), -1);
    }

    @Says(promise = 0, sentence = "It is BOUND by its OWN one, and by all by which a PIECE is BOUND that has a smaller number and is NEAR to it, but by none of which it is FREED")
    static void boundByNoneOneAndAllSix() {
        SnippetBank bank = Bounds.line16();
        for (int licence = 0; licence < 6; licence++) {
            bank.licence(0, 0, false, 1);
            bank.tell(2 * licence + 1, licence);
        }
        Bounds.due("ahead of all that are told", bank.ofPiece(0, 3), 0);
        Bounds.due("its own one", bank.ofPiece(1, 3), 1);
        Bounds.due("that of one behind does not bind", bank.ofPiece(10, 3), 31);
        Bounds.due("behind all", bank.ofPiece(15, 3), 63);
        bank.ask(13, 2);
        Bounds.due("but that of which it is freed", bank.ofPiece(13, 3), 63 - 4);
        Bounds.due("nor the one behind it, for that way alone led there", bank.ofPiece(14, 3), 63 - 4);
        Bounds.due("the one before it is bound", bank.ofPiece(12, 3), 63);
        bank.nearness(33);
        Bounds.due("now there is a way round it", bank.ofPiece(14, 3), 63);
        Bounds.due("it is still freed", bank.ofPiece(13, 3), 63 - 4);
        bank.nearness(67);
        Bounds.due("near to none", bank.ofPiece(15, 3), 0);
        Bounds.due("near to none, its own one", bank.ofPiece(11, 3), 32);
    }

    @Says(promise = 0, sentence = "if its PATIENCE is above 0, it is granted: the PATIENCE is 1 less, and the PIECE is FREED of it, for good")
    static void patienceOfOneAndForGood() {
        SnippetBank bank = Bounds.equals16();
        bank.licence(0, 0, false, 1);
        bank.licence(0, 0, false, 5);
        bank.tell(0, 0);
        Bounds.due("patience 1", bank.ask(3, 0), true);
        Bounds.due("1 less", bank.ofLicence(0, 3), 0);
        Bounds.due("of another one it is the same", bank.ofLicence(1, 3), 5);
        Bounds.due("freed", bank.ofPiece(3, 4), 1);
        bank.tell(3, 0);
        Bounds.due("also if it is told as its own", bank.ofPiece(3, 3), 0);
        bank.tell(3, -1);
        bank.tell(0, -1);
        bank.tell(0, 0);
        bank.nearness(100);
        bank.nearness(1);
        Bounds.due("for good", bank.ofPiece(3, 3), 0);
        Bounds.due("still freed", bank.ofPiece(3, 4), 1);
    }

    private static SnippetBank withoutPatience() {
        SnippetBank bank = Checks.withStrangers();
        bank.licence(1, 1, true, 0);
        bank.licence(2, 0, true, 1);
        bank.tell(0, 0);
        bank.tell(1, 1);
        bank.ask(1, 1);
        bank.tell(2, 1);
        return bank;
    }

    @Says(promise = 0, sentence = "Otherwise nothing is done")
    static void patienceOfNone() {
        Bounds.asks("patience 0 from the first", BoundsOfTermsTest::withoutPatience, false, bank -> bank.ask(0, 0));
        Bounds.asks("patience 0 after one was granted", BoundsOfTermsTest::withoutPatience, false, bank -> bank.ask(2, 1));
    }

    @Says(promise = 0, sentence = "PROJECTS: at most 5, numbered from 0, each a tree of NODES, at most 10, numbered from 0: 0 is its root, and always there")
    static void fiveProjectsOfTenNodes() {
        SnippetBank bank = new SnippetBank();
        for (int project = 0; project < 5; project++) {
            Bounds.due("project", bank.project(), project);
            for (int node = 1; node < 10; node++) {
                Bounds.due("node", bank.node(project, 0, -1), node);
            }
        }
        Bounds.due("nodes of all", bank.many(7), 50);
        for (int project = 0; project < 5; project++) {
            for (int node = 1; node < 10; node++) {
                bank.remove(project, node);
            }
            Bounds.due("the root is there", bank.ofProject(project, 6), 1);
        }
        Bounds.refused("a 6th project", Bounds::full, Bounds.STATE, SnippetBank::project);
        Bounds.refused("an 11th node", Bounds::full, Bounds.STATE, full -> full.node(4, 0, 0));
        Bounds.refused("without a root", Bounds::full, Bounds.STATE, full -> full.remove(4, 0));
    }

    @Says(promise = 0, sentence = "each other one has a PARENT, which is ABOVE it, as all are that are ABOVE this")
    static void noneToNineAbove() {
        SnippetBank bank = new SnippetBank();
        Bounds.tenInLine(bank);
        for (int node = 0; node < 10; node++) {
            Bounds.due("parent of " + node, bank.ofNode(0, node, 0), node - 1);
            Bounds.due("above " + node, bank.ofNode(0, node, 4), node);
        }
        SnippetBank flat = new SnippetBank();
        Bounds.tenNodesOf(flat, Bounds.NONE);
        for (int node = 1; node < 10; node++) {
            Bounds.due("parent of " + node + ", flat", flat.ofNode(0, node, 0), 0);
            Bounds.due("above " + node + ", flat", flat.ofNode(0, node, 4), 1);
        }
    }

    @Says(promise = 0, sentence = "A NODE has a PIECE, or is EMPTY")
    static void emptyNodesClashWithNoneAndOweNothing() {
        SnippetBank bank = Bounds.equals16();
        bank.licence(31, 31, true, 0);
        bank.tell(0, 0);
        bank.project();
        bank.node(0, 0, -1);
        Bounds.due("no clashes", bank.ofProject(0, 2), 0);
        Bounds.due("nothing is owed", bank.ofProject(0, 3), 0);
        bank.replace(0, 1, 15);
        Bounds.due("the last piece", bank.ofNode(0, 1, 1), 15);
        Bounds.due("it clashes with itself, not with the empty one", bank.ofNode(0, 1, 3), 2);
        Bounds.due("the empty one clashes with none", bank.ofNode(0, 0, 3), 0);
        bank.replace(0, 1, -1);
        Bounds.due("empty again", bank.ofProject(0, 2) + bank.ofProject(0, 3), 0);
    }

    @Says(promise = 0, sentence = "A new NODE has the smallest number that is not there")
    static void smallestNumberThatIsNotThere() {
        SnippetBank bank = new SnippetBank();
        Bounds.tenNodesOf(bank, Bounds.NONE);
        bank.remove(0, 9);
        Bounds.due("the last one", bank.node(0, 0, -1), 9);
        bank.remove(0, 9);
        bank.remove(0, 1);
        bank.remove(0, 5);
        Bounds.due("of 1, 5 and 9", bank.node(0, 0, -1), 1);
        Bounds.due("of 5 and 9", bank.node(0, 1, -1), 5);
        Bounds.due("9", bank.node(0, 5, -1), 9);
        Bounds.due("all ten", bank.ofProject(0, 6), 1023);
    }

    /**
     * Piece 2 is bound by the licences 0 to 2, piece 5 by 3 to 5, and of these only a and b clash. Node 1
     * has piece 2; nodes 2, which is below it, and 3, which is not, have piece 5.
     */
    private static SnippetBank oneClashOfNine(int a, int b, boolean isAsking, int strong) {
        SnippetBank bank = new SnippetBank();
        for (int piece = 0; piece < 6; piece++) {
            Checks.keepWords(bank, piece < 3 ? 10 : 14, 4);
        }
        for (int licence = 0; licence < 6; licence++) {
            int asks = licence == (isAsking ? a : b) ? 16 : 0;
            int forbids = licence == (isAsking ? b : a) ? 16 : 0;
            bank.licence(asks, forbids, licence == strong, 0);
            bank.tell(licence, licence);
        }
        bank.project();
        bank.node(0, 0, 2);
        bank.node(0, 1, 5);
        bank.node(0, 0, 5);
        return bank;
    }

    @Says(promise = 0, sentence = "if there are LICENCES a, by which the PIECE of the one is BOUND, and b, by which that of the other one is")
    static void oneClashOfManyLicences() {
        for (int k = 0; k < 18; k++) {
            int a = k % 3;
            int b = 3 + k / 3 % 3;
            for (int strong = 0; strong < 6; strong++) {
                SnippetBank bank = oneClashOfNine(a, b, k < 9, strong);
                boolean isFar = strong == a || strong == b;
                String what = a + " and " + b + " clash, strong is " + strong;
                Bounds.due(what, bank.ofNode(0, 1, 3), isFar ? 4 + 8 : 4);
                Bounds.due(what + ", below", bank.ofNode(0, 2, 3), 2);
                Bounds.due(what + ", beside", bank.ofNode(0, 3, 3), isFar ? 2 : 0);
                bank.tell(k % 2 == 0 ? a : b, -1);
                int left = bank.ofNode(0, 1, 3) + bank.ofNode(0, 2, 3) + bank.ofNode(0, 3, 3);
                Bounds.due(what + ", one of them is told no more", left, 0);
            }
        }
    }

    @Says(promise = 0, sentence = "(a and b can be the same one), that CLASH, and either one NODE is ABOVE the other one, or a or b is STRONG")
    static void clashesInLineAndBeside() {
        SnippetBank bank = Checks.withStrangers();
        bank.licence(1, 1, false, 0);
        bank.licence(2, 2, true, 0);
        bank.tell(0, 0);
        bank.tell(1, 1);
        bank.project();
        bank.node(0, 0, 0);
        for (int node = 2; node < 9; node++) {
            bank.node(0, node - 1, -1);
        }
        bank.node(0, 8, 0);
        Bounds.due("one licence, far above", bank.ofNode(0, 9, 3), 2 + 512);
        Bounds.due("far below", bank.ofNode(0, 1, 3), 2 + 512);
        bank.remove(0, 9);
        bank.node(0, 0, 0);
        Bounds.due("beside, not strong", bank.ofNode(0, 9, 3), 512);
        bank.replace(0, 9, 1);
        bank.replace(0, 8, 1);
        Bounds.due("beside, strong", bank.ofNode(0, 9, 3), 256 + 512);
        Bounds.due("the other one", bank.ofNode(0, 8, 3), 256 + 512);
    }

    @Says(promise = 0, sentence = "Also one NODE CLASHES (with itself), if two LICENCES by which its PIECE is BOUND CLASH, or one with itself")
    static void nodeAgainstItself() {
        SnippetBank bank = Bounds.equals16();
        bank.licence(1, 0, false, 1);
        bank.licence(0, 1, false, 0);
        bank.licence(16, 16, false, 0);
        bank.tell(14, 0);
        bank.tell(15, 1);
        bank.project();
        bank.replace(0, 0, 14);
        Bounds.due("one that does not clash with itself", bank.ofNode(0, 0, 3), 0);
        bank.replace(0, 0, 15);
        Bounds.due("two that clash", bank.ofNode(0, 0, 3), 1);
        bank.ask(15, 0);
        Bounds.due("one of them is left", bank.ofNode(0, 0, 3), 0);
        bank.tell(15, 2);
        Bounds.due("one with itself", bank.ofNode(0, 0, 3), 1);
    }

    @Says(promise = 0, sentence = "each two NODES that do count once, and each single one that does")
    static void noClashToAllOfTen() {
        SnippetBank bank = Checks.withStrangers();
        bank.licence(31, 31, true, 0);
        bank.tell(0, 0);
        Bounds.tenNodesOf(bank, 4);
        Bounds.due("none", bank.ofProject(0, 2), 0);
        for (int node = 0; node < 10; node++) {
            bank.replace(0, node, 0);
            Bounds.due("of nodes: " + (node + 1), bank.ofProject(0, 2), (node + 1) * (node + 2) / 2);
        }
    }

    @Says(promise = 0, sentence = "It OWES all DUTIES that LICENCES ASK by which a PIECE of it is BOUND, but those of which NOTICES are up")
    static void owesNoneToAllFive() {
        SnippetBank bank = Bounds.equals16();
        for (int licence = 0; licence < 5; licence++) {
            bank.licence(1 << licence, 0, false, 0);
            bank.tell(licence, licence);
        }
        bank.project();
        bank.node(0, 0, -1);
        Bounds.due("nothing, if all are empty", bank.ofProject(0, 3), 0);
        for (int piece = 0; piece < 5; piece++) {
            bank.replace(0, 1, piece);
            Bounds.due("bound by licences: " + (piece + 1), bank.ofProject(0, 3), (2 << piece) - 1);
        }
        for (int duty = 4; duty >= 0; duty--) {
            bank.notice(0, duty, true);
            Bounds.due("notices from " + duty, bank.ofProject(0, 3), (1 << duty) - 1);
        }
    }

    @Says(promise = 0, sentence = "A PROJECT is OPEN (0), SHIPPED (1), or RECALLED (2)")
    static void threeStates() {
        SnippetBank bank = Bounds.small();
        Bounds.due("shipped", bank.ofProject(0, 0), 1);
        Bounds.due("open", bank.ofProject(1, 0), 0);
        bank.notice(0, 0, false);
        Bounds.due("recalled", bank.ofProject(0, 0), 2);
    }

    @Says(promise = 0, sentence = "One that has no CLASHES, and OWES nothing, can be SHIPPED")
    static void shippedWithoutOneClashAndOneDuty() {
        SnippetBank bank = Checks.withStrangers();
        bank.licence(0, 16, false, 0);
        bank.licence(16, 0, false, 0);
        bank.tell(0, 0);
        bank.tell(1, 1);
        bank.project();
        bank.project();
        bank.project();
        Bounds.due("all is empty", bank.ship(0), 0);
        bank.replace(1, 0, 4);
        bank.node(1, 0, 0);
        Bounds.due("nothing is asked", bank.ship(1), 0);
        bank.replace(2, 0, 1);
        bank.notice(2, 4, true);
        Bounds.due("a notice is up of all that is asked", bank.ship(2), 0);
    }

    /** Three nodes, one with a piece that asks duty 0, of which the notice is up; it is shipped. */
    private static SnippetBank shipped() {
        SnippetBank bank = Checks.withChain();
        bank.licence(1, 0, false, 1);
        bank.licence(2, 0, false, 1);
        bank.licence(0, 1, false, 1);
        bank.tell(0, 0);
        bank.nearness(67);
        bank.project();
        bank.node(0, 0, 0);
        bank.node(0, 0, 1);
        bank.notice(0, 0, true);
        bank.tell(2, 1);
        bank.ship(0);
        return bank;
    }

    private static void leaves(String what, int state, Bounds.Call call) {
        SnippetBank bank = shipped();
        Bounds.due(what + ": before", bank.ofProject(0, 0), 1);
        call.on(bank);
        Bounds.due(what, bank.ofProject(0, 0), state);
        Bounds.due(what + ": how often", bank.ofProject(0, 5), state - 1);
    }

    @Says(promise = 0, sentence = "Whenever a call changes something, at its end, each SHIPPED one that has CLASHES, or OWES something, is RECALLED")
    static void recalledByEachCallThatCan() {
        leaves("tell, it owes", 2, bank -> bank.tell(1, 1));
        leaves("tell, a clash below the notice", 1, bank -> bank.tell(1, 2));
        leaves("node with a clash", 2, bank -> bank.tell(1, 2) + bank.node(0, 2, 0));
        leaves("node that owes", 2, bank -> bank.node(0, 1, 2));
        leaves("node in order", 1, bank -> bank.node(0, 1, 0));
        leaves("node that is empty", 1, bank -> bank.node(0, 1, -1));
        leaves("replace, it owes", 2, bank -> bank.replace(0, 0, 2));
        leaves("replace, in order", 1, bank -> bank.replace(0, 0, 0));
        leaves("notice down", 2, bank -> bank.notice(0, 0, false));
        leaves("another notice down", 1, bank -> bank.notice(0, 1, false));
        leaves("nearness, bound in a new way, in order", 1, bank -> bank.nearness(66));
        leaves("nearness, of one that owes", 2, bank -> bank.notice(0, 1, true) ? 0
                : bank.replace(0, 2, 2) + bank.nearness(66) + (bank.notice(0, 1, false) ? 1 : 0));
        leaves("ask", 1, bank -> bank.ask(0, 0));
        leaves("remove", 1, bank -> bank.remove(0, 1));
        leaves("keep", 1, SnippetBank::keep);
        leaves("licence that clashes with all", 1, bank -> bank.licence(31, 31, true, 0));
        leaves("project", 1, SnippetBank::project);
    }

    @Says(promise = 0, sentence = "It is SHIPPED again only if that is told")
    static void shippedAgainOnlyIfTold() {
        Bounds.Call[] mending = {
            bank -> bank.notice(0, 1, true), bank -> bank.tell(2, -1), bank -> bank.ask(2, 1), bank -> bank.replace(0, 3, -1),
            bank -> bank.remove(0, 3),
        };
        for (int k = 0; k < mending.length; k++) {
            SnippetBank bank = shipped();
            bank.node(0, 0, 2);
            Bounds.due("recalled", bank.ofProject(0, 0), 2);
            mending[k].on(bank);
            Bounds.due("nothing is owed: " + k, bank.ofProject(0, 3), 0);
            Bounds.due("still recalled: " + k, bank.ofProject(0, 0), 2);
            Bounds.due("told: " + k, bank.ship(0), 1);
            Bounds.due("shipped again: " + k, bank.ofProject(0, 0), 1);
        }
    }

    /** Some of them would be 0 or 1 again, if only their last bits were looked at. */
    private static final int[] FAR = {Integer.MIN_VALUE, -33, -32, -31, -2, 128, 1025, Integer.MAX_VALUE};

    /** Whatever the bank holds, these are refused, as none of the numbers is one of anything. */
    private static void refusedEverywhere(Bounds.Maker maker) {
        for (int far : FAR) {
            Bounds.refused("token", maker, Bounds.ARGUMENT, bank -> bank.token(far));
            Bounds.refused("cut", maker, Bounds.ARGUMENT, bank -> bank.cut(far));
            Bounds.refused("copy", maker, Bounds.INDEX, bank -> bank.copy(far, 0));
            Bounds.refused("draft", maker, Bounds.INDEX, bank -> bank.draft(far));
            Bounds.refused("scan", maker, Bounds.INDEX, bank -> bank.scan(far));
            Bounds.refused("share", maker, Bounds.INDEX, bank -> bank.share(far, far));
            Bounds.refused("ofPiece", maker, Bounds.INDEX, bank -> bank.ofPiece(far, 0));
            Bounds.refused("nearness", maker, Bounds.ARGUMENT, bank -> bank.nearness(far));
            Bounds.refused("licence", maker, Bounds.ARGUMENT, bank -> bank.licence(far, far, true, far));
            Bounds.refused("ofLicence", maker, Bounds.INDEX, bank -> bank.ofLicence(far, 0));
            Bounds.refused("tell", maker, Bounds.INDEX, bank -> bank.tell(far, -1));
            Bounds.refused("ask", maker, Bounds.INDEX, bank -> bank.ask(far, far));
            Bounds.refused("node", maker, Bounds.INDEX, bank -> bank.node(far, 0, -1));
            Bounds.refused("replace", maker, Bounds.INDEX, bank -> bank.replace(far, 0, -1));
            Bounds.refused("remove", maker, Bounds.INDEX, bank -> bank.remove(far, 1));
            Bounds.refused("ofNode", maker, Bounds.INDEX, bank -> bank.ofNode(far, 0, 0));
            Bounds.refused("notice", maker, Bounds.INDEX, bank -> bank.notice(far, 0, true));
            Bounds.refused("ship", maker, Bounds.INDEX, bank -> bank.ship(far));
            Bounds.refused("ofProject", maker, Bounds.INDEX, bank -> bank.ofProject(far, 0));
            Bounds.refused("many", maker, Bounds.ARGUMENT, bank -> bank.many(far));
            Bounds.refused("recalledBy", maker, Bounds.INDEX, bank -> bank.recalledBy(far, far));
            Bounds.refused("clashesWith", maker, Bounds.INDEX, bank -> bank.clashesWith(far, 0, 0));
            Bounds.refused("remedy", maker, Bounds.INDEX, bank -> bank.remedy(far));
            Bounds.refused("substitute", maker, Bounds.INDEX, bank -> bank.substitute(far, 0));
            Bounds.refused("boundWith", maker, Bounds.ARGUMENT, bank -> bank.boundWith(far));
        }
    }

    @Says(promise = 0, sentence = "A method that throws an exception changes nothing")
    static void refusedCallsChangeNothing() {
        refusedEverywhere(SnippetBank::new);
        refusedEverywhere(Bounds::small);
        refusedEverywhere(Bounds::full);
        Bounds.refused("token", Bounds::full, Bounds.STATE, bank -> bank.token(29));
        Bounds.refused("keep", Bounds::full, Bounds.STATE, SnippetBank::keep);
        Bounds.refused("licence", Bounds::full, Bounds.STATE, bank -> bank.licence(31, 31, true, 5));
        Bounds.refused("ask", Bounds::full, Bounds.STATE, bank -> bank.ask(15, 5));
        Bounds.refused("project", Bounds::full, Bounds.STATE, SnippetBank::project);
        Bounds.refused("node", Bounds::full, Bounds.STATE, bank -> bank.node(4, 9, 15));
        Bounds.refused("remove", Bounds::full, Bounds.STATE, bank -> bank.remove(4, 0));
        Bounds.refused("ship of a shipped one", Bounds::full, Bounds.STATE, bank -> bank.ship(3));
        Bounds.refused("ship of a recalled one", Bounds::full, Bounds.STATE, bank -> bank.ship(2));
        Bounds.refused("ship of an open one", Bounds::full, Bounds.STATE, bank -> bank.ship(0));
    }

    @Says(promise = 0, sentence = "If several exceptions apply, the one that is named first is thrown")
    static void firstNamedIsThrown() {
        Bounds.refused("token", Bounds::full, Bounds.ARGUMENT, bank -> bank.token(30));
        Bounds.refused("copy", Bounds::full, Bounds.INDEX, bank -> bank.copy(16, 10));
        Bounds.refused("ofPiece", Bounds::full, Bounds.INDEX, bank -> bank.ofPiece(16, 8));
        Bounds.refused("licence, asks", Bounds::full, Bounds.ARGUMENT, bank -> bank.licence(32, 0, false, 0));
        Bounds.refused("licence, forbids", Bounds::full, Bounds.ARGUMENT, bank -> bank.licence(0, 32, false, 0));
        Bounds.refused("licence, patience", Bounds::full, Bounds.ARGUMENT, bank -> bank.licence(0, 0, false, 6));
        Bounds.refused("ofLicence", Bounds::full, Bounds.INDEX, bank -> bank.ofLicence(6, 6));
        Bounds.refused("ask, piece", Bounds::full, Bounds.INDEX, bank -> bank.ask(16, 5));
        Bounds.refused("ask, licence", Bounds::full, Bounds.INDEX, bank -> bank.ask(15, 6));
        Bounds.refused("node, project", Bounds::full, Bounds.INDEX, bank -> bank.node(5, 0, -1));
        Bounds.refused("node, parent", Bounds::full, Bounds.INDEX, bank -> bank.node(4, 10, -1));
        Bounds.refused("node, piece", Bounds::full, Bounds.INDEX, bank -> bank.node(4, 0, 16));
        Bounds.refused("remove", Bounds::full, Bounds.INDEX, bank -> bank.remove(5, 0));
        Bounds.refused("ofNode, project", Bounds::full, Bounds.INDEX, bank -> bank.ofNode(5, 0, 5));
        Bounds.refused("ofNode, node", Bounds::full, Bounds.INDEX, bank -> bank.ofNode(4, 10, 5));
        Bounds.refused("ship", Bounds::full, Bounds.INDEX, bank -> bank.ship(5));
        Bounds.refused("ofProject", Bounds::full, Bounds.INDEX, bank -> bank.ofProject(5, 7));
    }

    @Says(promise = 0, sentence = "what would be (nothing is changed)")
    static void whatWouldBeChangesNothing() {
        Bounds.Maker maker = BoundsOfTermsTest::allShipped;
        Bounds.asks("recalledBy", maker, 31, bank -> bank.recalledBy(0, 5));
        Bounds.asks("clashesWith", maker, 1, bank -> bank.clashesWith(4, 0, 15));
        Bounds.asks("remedy", maker, 0, bank -> bank.remedy(4));
        Bounds.asks("substitute", maker, 1, bank -> bank.substitute(4, 0));
        Bounds.asks("boundWith", maker, 8, bank -> bank.boundWith(100));
        Bounds.asks("digest", maker, allShipped().digest(), SnippetBank::digest);
        SnippetBank full = Bounds.full();
        int clashes = full.clashesWith(0, 9, 15);
        int nodes = full.remedy(0);
        int piece = full.substitute(0, 9);
        Bounds.asks("recalledBy, full", Bounds::full, full.recalledBy(0, 5), bank -> bank.recalledBy(0, 5));
        Bounds.asks("clashesWith, full", Bounds::full, clashes, bank -> bank.clashesWith(0, 9, 15));
        Bounds.asks("remedy, full", Bounds::full, nodes, bank -> bank.remedy(0));
        Bounds.asks("substitute, full", Bounds::full, piece, bank -> bank.substitute(0, 9));
        Bounds.asks("boundWith, full", Bounds::full, full.boundWith(100), bank -> bank.boundWith(100));
    }

    /** Five projects with a piece that is bound by none; 7 to 15 are bound by one that clashes with itself. */
    private static SnippetBank allShipped() {
        SnippetBank bank = Bounds.line16();
        for (int licence = 0; licence < 6; licence++) {
            bank.licence(1, 1, true, 5);
        }
        bank.tell(7, 0);
        Bounds.projectsOf(bank, 0);
        Bounds.shipAll(bank);
        return bank;
    }

    public static void main(String[] args) throws IllegalAccessException {
        Bounds.run(BoundsOfTermsTest.class);
    }
}
