import java.math.BigInteger;

/** The sentences of promises 25 to 30 that name a boundary case, each with a test of its own. */
public final class BoundsOfWouldBeTest {
    /** Licence 0 asks duty 4, 1 nothing. Piece 15 is in all five projects; all but the given ones are shipped. */
    private static SnippetBank shippedBut(int open, int recalled) {
        SnippetBank bank = Bounds.equals16();
        bank.licence(16, 0, false, 1);
        bank.licence(0, 0, false, 0);
        Bounds.projectsOf(bank, 15);
        for (int project = 0; project < 5; project++) {
            if (project != open) {
                bank.ship(project);
            }
        }
        if (recalled >= 0) {
            bank.tell(14, 0);
            bank.ask(15, 0);
            for (int project = 0; project < 5; project++) {
                if (project != open && project != recalled) {
                    bank.ship(project);
                }
            }
            bank.licence(16, 0, false, 0);
        }
        return bank;
    }

    @Says(promise = 25, sentence = "Returns the set of PROJECTS that would be RECALLED, if that was told as the OWN one of the PIECE")
    static void noneToAllWouldBeRecalled() {
        Bounds.Maker all = () -> shippedBut(-1, -1);
        Bounds.asks("all, the piece that is there", all, 31, bank -> bank.recalledBy(15, 0));
        Bounds.asks("all, the first piece", all, 31, bank -> bank.recalledBy(0, 0));
        Bounds.asks("nothing is asked", all, 0, bank -> bank.recalledBy(0, 1));
        Bounds.asks("the first is open", () -> shippedBut(0, -1), 30, bank -> bank.recalledBy(15, 0));
        Bounds.asks("the last is open", () -> shippedBut(4, -1), 15, bank -> bank.recalledBy(15, 0));
        Bounds.asks("2 is recalled already", () -> shippedBut(-1, 2), 27, bank -> bank.recalledBy(15, 2));
        Bounds.asks("it is freed of it", () -> shippedBut(-1, 2), 0, bank -> bank.recalledBy(15, 0));
        Bounds.asks("without projects", Bounds::strangersAndLicence, 0, bank -> bank.recalledBy(15, 0));
        Bounds.asks("all are empty", BoundsOfWouldBeTest::emptyShipped, 0, bank -> bank.recalledBy(0, 0));
    }

    private static SnippetBank emptyShipped() {
        SnippetBank bank = Bounds.strangersAndLicence();
        Bounds.projectsOf(bank, Bounds.NONE);
        Bounds.shipAll(bank);
        return bank;
    }

    @Says(promise = 25, sentence = "Throws `IndexOutOfBoundsException` if there is no such PIECE, or LICENCE")
    static void recalledByWhatIsThere() {
        Bounds.due("the last of both", Bounds.full().recalledBy(15, 5), 0);
        Bounds.refusedOutside(0, 15, "piece, full", Bounds::full, Bounds.INDEX, (bank, k) -> bank.recalledBy(k, 0));
        Bounds.refusedOutside(0, 1, "piece of 2", Bounds::small, Bounds.INDEX, (bank, k) -> bank.recalledBy(k, 0));
        Bounds.refusedOutside(0, -1, "piece of none", SnippetBank::new, Bounds.INDEX, (bank, k) -> bank.recalledBy(k, 0));
        Bounds.refusedOutside(0, 5, "licence, full", Bounds::full, Bounds.INDEX, (bank, k) -> bank.recalledBy(15, k));
        Bounds.refusedOutside(0, 1, "licence of 2", Bounds::small, Bounds.INDEX, (bank, k) -> bank.recalledBy(0, k));
        Bounds.refusedOutside(0, -1, "licence of none", Bounds::equals16, Bounds.INDEX, (bank, k) -> bank.recalledBy(0, k));
    }

    /** Ten nodes beside each other; pieces 0 to 7 are in order, 8 to 15 clash with all that is bound. */
    private static SnippetBank tenNodesOf(int piece) {
        SnippetBank bank = Bounds.strangersAndLicence();
        for (int clashing = 8; clashing < 16; clashing++) {
            bank.tell(clashing, 0);
        }
        Bounds.tenNodesOf(bank, piece);
        return bank;
    }

    @Says(promise = 26, sentence = "Returns how many CLASHES the PROJECT would have with that in this NODE")
    static void noneToFiftyFiveClashes() {
        Bounds.asks("none", () -> tenNodesOf(0), 0, bank -> bank.clashesWith(0, 9, 7));
        Bounds.asks("the first one", () -> tenNodesOf(0), 1, bank -> bank.clashesWith(0, 9, 8));
        Bounds.asks("the first one, in an empty project", () -> tenNodesOf(-1), 1, bank -> bank.clashesWith(0, 0, 15));
        Bounds.asks("ten fewer", () -> tenNodesOf(15), 45, bank -> bank.clashesWith(0, 0, 0));
        Bounds.asks("as many as before", () -> tenNodesOf(15), 55, bank -> bank.clashesWith(0, 9, 8));
        Bounds.asks("the same piece", () -> tenNodesOf(15), 55, bank -> bank.clashesWith(0, 9, 15));
        Bounds.asks("ten more", BoundsOfWouldBeTest::lastOfTenEmpty, 55, bank -> bank.clashesWith(0, 9, 15));
    }

    private static SnippetBank lastOfTenEmpty() {
        SnippetBank bank = tenNodesOf(15);
        bank.replace(0, 9, Bounds.NONE);
        return bank;
    }

    @Says(promise = 26, sentence = "Throws `IndexOutOfBoundsException` if there is no such PROJECT, NODE, or PIECE")
    static void clashesWithWhatIsThere() {
        Bounds.due("the first of each", Bounds.full().clashesWith(3, 0, 0) >= 0, true);
        Bounds.due("the last of each", Bounds.full().clashesWith(4, 9, 15) >= 0, true);
        Bounds.refusedOutside(0, 4, "project, full", Bounds::full, Bounds.INDEX, (bank, k) -> bank.clashesWith(k, 0, 0));
        Bounds.refusedOutside(0, 1, "project of 2", Bounds::small, Bounds.INDEX, (bank, k) -> bank.clashesWith(k, 0, 0));
        Bounds.refusedOutside(0, -1, "project of none", Bounds::equals16, Bounds.INDEX, (b, k) -> b.clashesWith(k, 0, 0));
        Bounds.refusedOutside(0, 9, "node, full", Bounds::full, Bounds.INDEX, (bank, k) -> bank.clashesWith(4, k, 0));
        Bounds.refusedOutside(0, 1, "node of 2", Bounds::small, Bounds.INDEX, (bank, k) -> bank.clashesWith(0, k, 0));
        Bounds.refusedOutside(0, 0, "node of 1", Bounds::small, Bounds.INDEX, (bank, k) -> bank.clashesWith(1, k, 1));
        Bounds.refusedOutside(0, 15, "piece, full", Bounds::full, Bounds.INDEX, (bank, k) -> bank.clashesWith(4, 9, k));
        Bounds.refusedOutside(0, 1, "piece of 2", Bounds::small, Bounds.INDEX, (bank, k) -> bank.clashesWith(0, 0, k));
        Bounds.refusedOutside(0, -1, "piece of none", BoundsOfWouldBeTest::rootAlone, Bounds.INDEX, (b, k) -> b.clashesWith(0, 0, k));
    }

    private static SnippetBank rootAlone() {
        SnippetBank bank = new SnippetBank();
        bank.project();
        return bank;
    }

    @Says(promise = 27, sentence = "Returns the set of NODES with the fewest in it, that, if all of them were EMPTY, would leave no CLASHES (0 without any)")
    static void remedyOfNoneOneAndAll() {
        Bounds.asks("all are empty", () -> tenNodesOf(-1), 0, bank -> bank.remedy(0));
        Bounds.asks("all are in order", () -> tenNodesOf(0), 0, bank -> bank.remedy(0));
        Bounds.asks("each clashes with itself", () -> tenNodesOf(15), 1023, bank -> bank.remedy(0));
        Bounds.asks("a root alone", BoundsOfWouldBeTest::rootAlone, 0, bank -> bank.remedy(0));
        for (int node = 0; node < 10; node++) {
            SnippetBank bank = tenNodesOf(0);
            bank.replace(0, node, 8);
            Bounds.due("one node", bank.remedy(0), 1 << node);
        }
        SnippetBank owing = tenNodesOf(0);
        owing.licence(31, 0, true, 0);
        owing.tell(0, 1);
        Bounds.due("what is owed is no clash", owing.ofProject(0, 3) * 100 + owing.remedy(0), 3100);
        SnippetBank star = star(9);
        Bounds.due("the one in the middle, though its number is the greatest", star.remedy(0), 512);
    }

    /** Ten nodes beside each other: that one clashes with each other one, and those with none else. */
    private static SnippetBank star(int middle) {
        SnippetBank bank = Bounds.strangers16();
        bank.licence(1, 0, true, 0);
        bank.licence(0, 1, true, 0);
        bank.tell(0, 0);
        bank.tell(1, 1);
        Bounds.tenNodesOf(bank, 0);
        bank.replace(0, middle, 1);
        return bank;
    }

    @Says(promise = 27, sentence = "of several the smallest number")
    static void smallestRemedyOfSeveral() {
        SnippetBank pair = star(9);
        for (int node = 1; node < 9; node++) {
            pair.replace(0, node, 2);
        }
        Bounds.due("0 or 9", pair.remedy(0), 1);
        pair.replace(0, 0, 2);
        pair.replace(0, 8, 0);
        Bounds.due("8 or 9", pair.remedy(0), 256);
        SnippetBank halves = star(9);
        for (int node = 5; node < 10; node++) {
            halves.replace(0, node, 1);
        }
        Bounds.due("0 to 4 or 5 to 9", halves.remedy(0), 31);
        halves.replace(0, 0, 1);
        Bounds.due("1 to 4 are fewer", halves.remedy(0), 30);
        halves.replace(0, 0, 2);
        halves.replace(0, 1, 1);
        halves.replace(0, 2, 1);
        halves.replace(0, 9, 0);
        halves.replace(0, 8, 0);
        Bounds.due("3, 4, 8, 9 or 1, 2, 5, 6, 7", halves.remedy(0), 8 + 16 + 256 + 512);
        halves.replace(0, 7, 2);
        Bounds.due("1, 2, 5, 6 or 3, 4, 8, 9", halves.remedy(0), 2 + 4 + 32 + 64);
    }

    @Says(promise = 27, sentence = "Throws `IndexOutOfBoundsException` if there is no such PROJECT")
    static void remedyOfProjectsThereAre() {
        Bounds.due("the last one", Bounds.full().remedy(3), 0);
        Bounds.refusedOutside(0, 4, "remedy, full", Bounds::full, Bounds.INDEX, SnippetBank::remedy);
        Bounds.refusedOutside(0, 1, "remedy of 2", Bounds::small, Bounds.INDEX, SnippetBank::remedy);
        Bounds.refusedOutside(0, -1, "remedy of none", SnippetBank::new, Bounds.INDEX, SnippetBank::remedy);
    }

    @Says(promise = 28, sentence = "Returns the PIECE, another one than that of the NODE, with which the NODE would CLASH with none, nor with itself")
    static void substituteThatClashesWithNone() {
        Bounds.asks("the first one in order", () -> tenNodesOf(15), 0, bank -> bank.substitute(0, 0));
        Bounds.asks("the next one in order", () -> tenNodesOf(0), 1, bank -> bank.substitute(0, 9));
        SnippetBank lone = Bounds.strangersAndLicence();
        lone.project();
        lone.replace(0, 0, 0);
        for (int piece = 1; piece < 15; piece++) {
            lone.tell(piece, 0);
        }
        Bounds.due("the last piece alone", lone.substitute(0, 0), 15);
        lone.replace(0, 0, 15);
        Bounds.due("the first piece alone", lone.substitute(0, 0), 0);
        SnippetBank beside = star(9);
        Bounds.due("not 0, as 9 would clash with it", beside.substitute(0, 0), 2);
        beside.replace(0, 9, 2);
        Bounds.due("not the one that is there, though it is in order", beside.substitute(0, 9), 0);
    }

    @Says(promise = 28, sentence = "of these that with the greatest SHARE with the one that is there, of several the smallest number")
    static void substituteOfGreatestShareAndSmallestNumber() {
        SnippetBank bank = Bounds.line16();
        bank.licence(1, 1, true, 5);
        bank.project();
        int[] due = {1, 0, 1, 2, 3, 4, 5, 6, 7, 8, 9, 10, 11, 12, 13, 14};
        for (int piece = 0; piece < 16; piece++) {
            bank.replace(0, 0, piece);
            Bounds.due("of those with 66, for " + piece, bank.substitute(0, 0), due[piece]);
        }
        bank.tell(14, 0);
        Bounds.due("33, as 66 would clash", bank.substitute(0, 0), 13);
        bank.tell(13, 0);
        Bounds.due("0, of several the first", bank.substitute(0, 0), 0);
        SnippetBank equal = Bounds.equals16();
        equal.project();
        equal.replace(0, 0, 0);
        Bounds.due("100, the first other one", equal.substitute(0, 0), 1);
        equal.replace(0, 0, 15);
        Bounds.due("100, the first one", equal.substitute(0, 0), 0);
    }

    @Says(promise = 28, sentence = "NONE without one, or if the NODE is EMPTY")
    static void noSubstitute() {
        Bounds.asks("the node is empty", () -> tenNodesOf(-1), -1, bank -> bank.substitute(0, 9));
        Bounds.asks("there is no piece", BoundsOfWouldBeTest::rootAlone, -1, bank -> bank.substitute(0, 0));
        Bounds.asks("there is no other piece", BoundsOfWouldBeTest::onePiece, -1, bank -> bank.substitute(0, 0));
        SnippetBank all = Bounds.equals16();
        all.licence(1, 1, false, 1);
        all.tell(0, 0);
        all.project();
        all.replace(0, 0, 0);
        Bounds.due("each clashes with itself", all.substitute(0, 0), -1);
        all.ask(15, 0);
        Bounds.due("but the last one", all.substitute(0, 0), 15);
    }

    private static SnippetBank onePiece() {
        SnippetBank bank = new SnippetBank();
        Checks.keepWords(bank, 10, 4);
        bank.project();
        bank.replace(0, 0, 0);
        return bank;
    }

    @Says(promise = 28, sentence = "Throws `IndexOutOfBoundsException` if there is no such PROJECT, or NODE")
    static void substituteWhereItIsThere() {
        Bounds.due("the last node of the last project", Bounds.full().substitute(4, 9) >= -1, true);
        Bounds.refusedOutside(0, 4, "project, full", Bounds::full, Bounds.INDEX, (bank, k) -> bank.substitute(k, 0));
        Bounds.refusedOutside(0, 1, "project of 2", Bounds::small, Bounds.INDEX, (bank, k) -> bank.substitute(k, 0));
        Bounds.refusedOutside(0, -1, "project of none", SnippetBank::new, Bounds.INDEX, (bank, k) -> bank.substitute(k, 0));
        Bounds.refusedOutside(0, 9, "node, full", Bounds::full, Bounds.INDEX, (bank, k) -> bank.substitute(4, k));
        Bounds.refusedOutside(0, 1, "node of 2", Bounds::small, Bounds.INDEX, (bank, k) -> bank.substitute(0, k));
        Bounds.refusedOutside(0, 0, "node of 1", Bounds::small, Bounds.INDEX, (bank, k) -> bank.substitute(1, k));
    }

    private static SnippetBank boundLine() {
        SnippetBank bank = Bounds.line16();
        bank.licence(0, 0, false, 5);
        bank.tell(0, 0);
        return bank;
    }

    @Says(promise = 29, sentence = "Returns how many PIECES would be BOUND by another set of LICENCES with that, in any way")
    static void noneToFifteenBoundOtherwise() {
        Bounds.asks("the nearness there is", BoundsOfWouldBeTest::boundLine, 0, bank -> bank.boundWith(60));
        Bounds.asks("66 is near still", BoundsOfWouldBeTest::boundLine, 0, bank -> bank.boundWith(66));
        Bounds.asks("all but the first", BoundsOfWouldBeTest::boundLine, 15, bank -> bank.boundWith(67));
        Bounds.asks("no pieces", SnippetBank::new, 0, bank -> bank.boundWith(100));
        Bounds.asks("no licences", Bounds::line16, 0, bank -> bank.boundWith(100));
        SnippetBank bank = boundLine();
        bank.nearness(67);
        Bounds.due("more would be bound", bank.boundWith(66), 15);
        Bounds.due("every second one", bank.boundWith(33), 15);
        bank.licence(0, 0, false, 0);
        bank.tell(15, 1);
        Bounds.due("by two, not by one", bank.boundWith(1), 15);
        bank.nearness(60);
        bank.ask(15, 0);
        Bounds.due("by the same one", bank.boundWith(100), 14);
    }

    @Says(promise = 29, sentence = "Throws `IllegalArgumentException` if nearness is not 1 to 100")
    static void boundWithOneToHundred() {
        for (int nearness = 1; nearness <= 100; nearness++) {
            Bounds.due("boundWith(" + nearness + ")", boundLine().boundWith(nearness), nearness <= 66 ? 0 : 15);
        }
        Bounds.refusedOutside(1, 100, "boundWith", BoundsOfWouldBeTest::boundLine, Bounds.ARGUMENT, SnippetBank::boundWith);
        Bounds.refusedOutside(1, 100, "boundWith, none", SnippetBank::new, Bounds.ARGUMENT, SnippetBank::boundWith);
    }

    /** The digest in numbers that have no end, of which the last 64 bits are kept. */
    private static final class Unbounded {
        private BigInteger sum = BigInteger.valueOf(58109);

        void add(int value) {
            sum = sum.multiply(BigInteger.valueOf(31)).add(BigInteger.valueOf(value));
        }
    }

    /** A bank is made for each part, as all of them would be more than 512 calls. */
    private static long digestOf(Bounds.Maker maker) {
        return unboundedDigestOf(maker).longValue();
    }

    private static BigInteger unboundedDigestOf(Bounds.Maker maker) {
        Unbounded digest = new Unbounded();
        SnippetBank bank = maker.make();
        for (int what = 0; what <= 10; what++) {
            digest.add(bank.many(what));
        }
        int pieces = bank.many(1);
        for (int piece = 0; piece < pieces; piece++) {
            for (int what = 0; what <= 7; what++) {
                digest.add(bank.ofPiece(piece, what));
            }
            digest.add(bank.scan(piece));
            if (piece < pieces - 1) {
                digest.add(bank.share(piece, piece + 1));
            }
        }
        int licences = bank.many(2);
        for (int licence = 0; licence < licences; licence++) {
            for (int what = 0; what <= 5; what++) {
                digest.add(bank.ofLicence(licence, what));
            }
        }
        int projects = bank.many(3);
        for (int project = 0; project < projects; project++) {
            addProject(digest, maker.make(), project);
        }
        digest.add(bank.boundWith(30));
        digest.add(bank.boundWith(90));
        return digest.sum;
    }

    private static void addProject(Unbounded digest, SnippetBank bank, int project) {
        for (int what = 0; what <= 6; what++) {
            digest.add(bank.ofProject(project, what));
        }
        digest.add(bank.remedy(project));
        int nodes = bank.ofProject(project, 6);
        for (int node = 0; node < 10; node++) {
            if ((nodes >> node & 1) == 1) {
                for (int what = 0; what <= 4; what++) {
                    digest.add(bank.ofNode(project, node, what));
                }
                digest.add(bank.substitute(project, node));
            }
        }
    }

    @Says(promise = 30, sentence = "A number d starts with 58109")
    static void digestOfNothing() {
        long due = 58109;
        int[] numbers = {0, 0, 0, 0, 0, 0, 0, 0, 0, 0, 60, 0, 0};
        for (int number : numbers) {
            due = due * 31 + number;
        }
        Bounds.due("digest", new SnippetBank().digest(), due);
    }

    @Says(promise = 30, sentence = "d becomes d * 31 + v, which wraps around as a 64-bit integer")
    static void digestWrapsAround() {
        BigInteger bound = BigInteger.ONE.shiftLeft(63);
        int beyond = 0;
        int negative = 0;
        Bounds.Maker[] makers = {SnippetBank::new, Bounds::small, Bounds::full, Bounds::line16, BoundsOfWouldBeTest::onePiece};
        for (Bounds.Maker maker : makers) {
            BigInteger unbounded = unboundedDigestOf(maker);
            long due = unbounded.longValue();
            Bounds.due("digest", maker.make().digest(), due);
            beyond += unbounded.compareTo(bound) >= 0 ? 1 : 0;
            negative += due < 0 ? 1 : 0;
        }
        Bounds.due("they all went beyond 64 bits", beyond, makers.length);
        Bounds.due("some became negative", negative > 0, true);
    }

    @Says(promise = 30, sentence = "PIECE by PIECE ofPiece() of 0 to 7, scan(), and share() with the next one, if there is one")
    static void digestOfNoneOneAndSixteenPieces() {
        SnippetBank bank = new SnippetBank();
        Checks.write(bank, Bounds.words(10, 6));
        for (int pieces = 0; pieces <= 4; pieces++) {
            Bounds.due("pieces: " + pieces, bank.digest(), digestOf(() -> bank));
            bank.cut(1);
            bank.token(16 + pieces);
            bank.keep();
        }
        Bounds.due("sixteen", Bounds.line16().digest(), digestOf(Bounds::line16));
        SnippetBank few = Bounds.line16();
        few.cut(3);
        long digest = few.digest();
        Bounds.due("a draft of 3", digest, digestOf(() -> few));
    }

    @Says(promise = 30, sentence = "LICENCE by LICENCE ofLicence() of 0 to 5")
    static void digestOfNoneToSixLicences() {
        for (int licences = 0; licences <= 6; licences++) {
            SnippetBank bank = new SnippetBank();
            for (int licence = 0; licence < licences; licence++) {
                bank.licence(1 << licence % 5, 31 >> licence, licence % 2 == 0, licence % 6);
            }
            Bounds.due("licences: " + licences, bank.digest(), digestOf(() -> bank));
        }
    }

    @Says(promise = 30, sentence = "PROJECT by PROJECT ofProject() of 0 to 6, remedy(), NODE by NODE ofNode() of 0 to 4 and substitute()")
    static void digestOfNoneToFiveProjects() {
        SnippetBank bank = onePiece();
        for (int project = 1; project < 5; project++) {
            bank.project();
            Bounds.due("projects: " + (project + 1), bank.digest(), digestOf(() -> bank));
        }
        SnippetBank gap = tenNodesOf(15);
        gap.remove(0, 1);
        gap.remove(0, 9);
        Bounds.due("nodes that are gone", gap.digest(), digestOf(() -> gap));
        Bounds.due("a full bank", Bounds.full().digest(), digestOf(Bounds::full));
    }

    @Says(promise = 30, sentence = "boundWith() of 30 and of 90")
    static void digestOfTwoNearnesses() {
        int[] nears = {30, 31, 33, 34, 66, 67, 89, 90, 91, 1, 100};
        for (int nearness : nears) {
            SnippetBank bank = boundLine();
            bank.ask(1, 0);
            bank.nearness(nearness);
            Bounds.due("nearness " + nearness, bank.digest(), digestOf(() -> bank));
        }
        SnippetBank bank = new SnippetBank();
        Checks.keep(bank, Bounds.words(10, 12));
        Checks.keep(bank, Bounds.words(11, 12));
        bank.licence(0, 0, false, 0);
        bank.tell(0, 0);
        Bounds.due("88 is not near at 90", bank.boundWith(90), 1);
        Bounds.due("the digest of that", bank.digest(), digestOf(() -> bank));
    }

    public static void main(String[] args) throws IllegalAccessException {
        Bounds.run(BoundsOfWouldBeTest.class);
    }
}
