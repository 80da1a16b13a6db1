/** The sentences of promises 15 to 24 that name a boundary case, each with a test of its own. */
public final class BoundsOfProjectsTest {
    private static SnippetBank withProjects(int many) {
        SnippetBank bank = Bounds.equals16();
        for (int project = 0; project < many; project++) {
            bank.project();
        }
        return bank;
    }

    /** 16 equal pieces, the first one with a licence that asks and forbids all; one project of that many nodes. */
    private static SnippetBank withNodes(int many) {
        SnippetBank bank = Bounds.equals16();
        bank.licence(31, 31, true, 1);
        bank.tell(0, 0);
        bank.project();
        for (int node = 1; node < many; node++) {
            bank.node(0, 0, Bounds.NONE);
        }
        return bank;
    }

    @Says(promise = 15, sentence = "Begins a PROJECT, with an EMPTY root alone")
    static void emptyRootAlone() {
        SnippetBank bank = Bounds.equals16();
        for (int project = 0; project < 5; project++) {
            bank.project();
            Bounds.due("open", bank.ofProject(project, 0), 0);
            Bounds.due("nodes", bank.ofProject(project, 1), 1);
            Bounds.due("no clashes, nothing owed, no notices, not recalled", bank.ofProject(project, 2)
                    + bank.ofProject(project, 3) + bank.ofProject(project, 4) + bank.ofProject(project, 5), 0);
            Bounds.due("the root", bank.ofProject(project, 6), 1);
            Bounds.due("its parent", bank.ofNode(project, 0, 0), -1);
            Bounds.due("its piece", bank.ofNode(project, 0, 1), -1);
        }
    }

    @Says(promise = 15, sentence = "Returns its number")
    static void projectsAreZeroToFour() {
        SnippetBank bank = new SnippetBank();
        for (int project = 0; project <= 4; project++) {
            Bounds.due("project", bank.project(), project);
            Bounds.due("projects", bank.many(3), project + 1);
        }
    }

    @Says(promise = 15, sentence = "Throws `IllegalStateException` if there are 5")
    static void fifthProjectIsTheLast() {
        Bounds.due("a 5th", withProjects(4).project(), 4);
        Bounds.refused("a 6th", () -> withProjects(5), Bounds.STATE, SnippetBank::project);
        Bounds.refused("a 6th, full", Bounds::full, Bounds.STATE, SnippetBank::project);
    }

    @Says(promise = 16, sentence = "its PIECE, or NONE")
    static void nodeOfFirstAndLastPieceAndNone() {
        int[] pieces = {-1, 0, 15};
        for (int piece : pieces) {
            SnippetBank bank = withNodes(1);
            Bounds.due("node", bank.node(0, 0, piece), 1);
            Bounds.due("its piece", bank.ofNode(0, 1, 1), piece);
            Bounds.due("its licences", bank.ofNode(0, 1, 2), piece < 0 ? 0 : 1);
        }
        SnippetBank none = new SnippetBank();
        none.project();
        Bounds.due("without pieces", none.node(0, 0, -1), 1);
    }

    @Says(promise = 16, sentence = "Returns its number")
    static void nodesAreOneToNine() {
        SnippetBank bank = withNodes(1);
        for (int node = 1; node <= 9; node++) {
            Bounds.due("node", bank.node(0, node - 1, -1), node);
        }
        bank.remove(0, 1);
        Bounds.due("1 again", bank.node(0, 0, -1), 1);
    }

    @Says(promise = 16, sentence = "Throws `IndexOutOfBoundsException` if there is no such PROJECT, NODE, or PIECE (but NONE)")
    static void nodeOfWhatIsThere() {
        Bounds.due("the last project, the last piece", withProjects(5).node(4, 0, 15), 1);
        Bounds.due("below the last node", withNodes(9).node(0, 8, -1), 9);
        Bounds.refusedOutside(0, 4, "project", () -> withProjects(5), Bounds.INDEX, (bank, k) -> bank.node(k, 0, -1));
        Bounds.refusedOutside(0, 1, "project of 2", Bounds::small, Bounds.INDEX, (bank, k) -> bank.node(k, 0, 0));
        Bounds.refusedOutside(0, -1, "project of none", SnippetBank::new, Bounds.INDEX, (bank, k) -> bank.node(k, 0, -1));
        for (int nodes = 1; nodes <= 9; nodes++) {
            int many = nodes;
            Bounds.refusedOutside(0, many - 1, "parent", () -> withNodes(many), Bounds.INDEX, (bank, k) -> bank.node(0, k, 15));
        }
        Bounds.refusedOutside(0, 9, "parent, full", Bounds::full, Bounds.INDEX, (bank, k) -> bank.node(4, k, -1));
        Bounds.refused("a parent that is gone", BoundsOfProjectsTest::withGap, Bounds.INDEX, bank -> bank.node(0, 1, -1));
        Bounds.refusedOutside(-1, 15, "piece", () -> withNodes(1), Bounds.INDEX, (bank, k) -> bank.node(0, 0, k));
        Bounds.refusedOutside(-1, 1, "piece of 2", Bounds::small, Bounds.INDEX, (bank, k) -> bank.node(1, 0, k));
        Bounds.refusedOutside(-1, -1, "piece of none", BoundsOfProjectsTest::rootAlone, Bounds.INDEX, (b, k) -> b.node(0, 0, k));
        Bounds.refusedOutside(-1, 15, "piece, full", Bounds::full, Bounds.INDEX, (bank, k) -> bank.node(0, 0, k));
    }

    /** Nodes 0, 2 and 9 are there. */
    private static SnippetBank withGap() {
        SnippetBank bank = withNodes(10);
        bank.remove(0, 1);
        for (int node = 3; node < 9; node++) {
            bank.remove(0, node);
        }
        return bank;
    }

    private static SnippetBank rootAlone() {
        SnippetBank bank = new SnippetBank();
        bank.project();
        return bank;
    }

    @Says(promise = 16, sentence = "Throws `IllegalStateException` if there are 10")
    static void tenthNodeIsTheLast() {
        Bounds.due("a 10th", withNodes(9).node(0, 0, 15), 9);
        Bounds.refused("an 11th below the root", () -> withNodes(10), Bounds.STATE, bank -> bank.node(0, 0, 0));
        Bounds.refused("an 11th below the last one", () -> withNodes(10), Bounds.STATE, bank -> bank.node(0, 9, -1));
        SnippetBank gone = withNodes(10);
        gone.remove(0, 4);
        Bounds.due("a 10th after one is gone", gone.node(0, 9, 15), 4);
        SnippetBank other = withNodes(10);
        other.project();
        Bounds.due("another project has nodes of its own", other.node(1, 0, 0), 1);
    }

    @Says(promise = 17, sentence = "Puts another PIECE into a NODE, or none")
    static void replacedByOneAndByNone() {
        SnippetBank bank = withNodes(10);
        int[] pieces = {0, 15, 15, -1, -1, 0};
        for (int node = 0; node < 10; node += 9) {
            for (int piece : pieces) {
                bank.replace(0, node, piece);
                Bounds.due("piece of " + node, bank.ofNode(0, node, 1), piece);
                Bounds.due("clashes of " + node, bank.ofNode(0, node, 3) >> node & 1, piece < 0 ? 0 : 1);
            }
            bank.replace(0, node, -1);
            Bounds.due("the tree is the same", bank.ofProject(0, 6), 1023);
        }
    }

    @Says(promise = 17, sentence = "the PIECE, or NONE")
    static void replacedByNoneWithoutPieces() {
        Bounds.asks("none for none, without pieces", BoundsOfProjectsTest::rootAlone, -1, bank -> bank.replace(0, 0, -1));
        Bounds.asks("none for none", () -> withNodes(10), -1, bank -> bank.replace(0, 9, -1));
        Bounds.due("the last piece", withNodes(10).replace(0, 9, 15), -1);
    }

    @Says(promise = 17, sentence = "Returns the one before (NONE)")
    static void theOneBefore() {
        SnippetBank bank = withNodes(10);
        Bounds.due("none", bank.replace(0, 9, 0), -1);
        Bounds.due("the first piece", bank.replace(0, 9, 15), 0);
        Bounds.due("the last piece", bank.replace(0, 9, 15), 15);
        Bounds.due("the same one", bank.replace(0, 9, -1), 15);
        Bounds.due("none again", bank.replace(0, 9, -1), -1);
        bank.replace(0, 9, 15);
        bank.remove(0, 9);
        bank.node(0, 0, -1);
        Bounds.due("not that of a node that is gone", bank.replace(0, 9, 0), -1);
    }

    @Says(promise = 17, sentence = "Throws `IndexOutOfBoundsException` if there is no such PROJECT, NODE, or PIECE (but NONE)")
    static void replacedWhereAndByWhatIsThere() {
        Bounds.due("the last of each", Bounds.full().replace(4, 9, 15), Bounds.full().ofNode(4, 9, 1));
        Bounds.due("the first of each", Bounds.full().replace(0, 0, 0), -1);
        Bounds.refusedOutside(0, 4, "project, full", Bounds::full, Bounds.INDEX, (bank, k) -> bank.replace(k, 0, -1));
        Bounds.refusedOutside(0, 1, "project of 2", Bounds::small, Bounds.INDEX, (bank, k) -> bank.replace(k, 0, 1));
        Bounds.refusedOutside(0, -1, "project of none", SnippetBank::new, Bounds.INDEX, (bank, k) -> bank.replace(k, 0, -1));
        Bounds.refusedOutside(0, 9, "node, full", Bounds::full, Bounds.INDEX, (bank, k) -> bank.replace(0, k, 15));
        Bounds.refusedOutside(0, 1, "node of 2", Bounds::small, Bounds.INDEX, (bank, k) -> bank.replace(0, k, -1));
        Bounds.refused("a node that is gone", BoundsOfProjectsTest::withGap, Bounds.INDEX, bank -> bank.replace(0, 8, -1));
        Bounds.refusedOutside(-1, 15, "piece, full", Bounds::full, Bounds.INDEX, (bank, k) -> bank.replace(3, 7, k));
        Bounds.refusedOutside(-1, 1, "piece of 2", Bounds::small, Bounds.INDEX, (bank, k) -> bank.replace(0, 1, k));
        Bounds.refusedOutside(-1, -1, "piece of none", BoundsOfProjectsTest::rootAlone, Bounds.INDEX, (b, k) -> b.replace(0, 0, k));
    }

    @Says(promise = 18, sentence = "Takes a NODE away, and all ABOVE which it is")
    static void removedWithAllBelow() {
        for (int node = 1; node <= 9; node++) {
            SnippetBank bank = new SnippetBank();
            Bounds.tenInLine(bank);
            Bounds.due("remove(0, " + node + ")", bank.remove(0, node), 10 - node);
            Bounds.due("what is left", bank.ofProject(0, 6), (1 << node) - 1);
            Bounds.due("nodes", bank.ofProject(0, 1), node);
        }
        SnippetBank flat = withNodes(10);
        for (int node = 9; node >= 1; node--) {
            Bounds.due("one alone", flat.remove(0, node), 1);
            Bounds.due("what is left, flat", flat.ofProject(0, 6), (1 << node) - 1);
        }
    }

    @Says(promise = 18, sentence = "Returns how many are not there any more")
    static void oneToNineAreGone() {
        SnippetBank bank = withNodes(2);
        Bounds.due("one", bank.remove(0, 1), 1);
        bank.node(0, 0, 0);
        for (int node = 2; node < 10; node++) {
            bank.node(0, 1, 0);
        }
        Bounds.due("nine", bank.remove(0, 1), 9);
        Bounds.due("the root is left", bank.ofProject(0, 1), 1);
        bank.node(0, 0, 0);
        bank.node(0, 0, 0);
        bank.remove(0, 1);
        bank.node(0, 2, 0);
        Bounds.due("those with smaller numbers below it", bank.remove(0, 2), 2);
    }

    @Says(promise = 18, sentence = "Throws `IndexOutOfBoundsException` if there is no such PROJECT, or NODE")
    static void removedWhereItIsThere() {
        Bounds.due("the last node of the last project", Bounds.full().remove(4, 9), 1);
        Bounds.refusedOutside(0, 4, "project, full", Bounds::full, Bounds.INDEX, (bank, k) -> bank.remove(k, 1));
        Bounds.refusedOutside(0, 1, "project of 2", Bounds::small, Bounds.INDEX, (bank, k) -> bank.remove(k, 0));
        Bounds.refusedOutside(0, -1, "project of none", SnippetBank::new, Bounds.INDEX, (bank, k) -> bank.remove(k, 0));
        Bounds.refusedOutside(0, 9, "node, full", Bounds::full, Bounds.INDEX, (bank, k) -> bank.remove(4, k));
        Bounds.refusedOutside(0, 1, "node of 2", Bounds::small, Bounds.INDEX, (bank, k) -> bank.remove(0, k));
        Bounds.refused("a node that is gone", BoundsOfProjectsTest::withGap, Bounds.INDEX, bank -> bank.remove(0, 1));
    }

    @Says(promise = 18, sentence = "Throws `IllegalStateException` if it is the root")
    static void rootIsNotRemoved() {
        for (int project = 0; project < 5; project++) {
            int one = project;
            Bounds.refused("root of " + one, Bounds::full, Bounds.STATE, bank -> bank.remove(one, 0));
        }
        Bounds.refused("a root alone", BoundsOfProjectsTest::rootAlone, Bounds.STATE, bank -> bank.remove(0, 0));
        Bounds.due("the first other one", withNodes(2).remove(0, 1), 1);
    }

    @Says(promise = 19, sentence = "0 its PARENT (NONE), 1 its PIECE (NONE), 2 the set of LICENCES by which that is BOUND (0 if it is EMPTY)")
    static void parentPieceAndLicencesOrNone() {
        SnippetBank bank = Bounds.equals16();
        Bounds.tenInLine(bank);
        for (int licence = 0; licence < 6; licence++) {
            bank.licence(0, 0, false, 0);
            bank.tell(licence, licence);
        }
        for (int node = 0; node < 10; node += 9) {
            Bounds.due("parent", bank.ofNode(0, node, 0), node - 1);
            Bounds.due("no piece", bank.ofNode(0, node, 1), -1);
            Bounds.due("no licences", bank.ofNode(0, node, 2), 0);
            bank.replace(0, node, 0);
            Bounds.due("the first piece", bank.ofNode(0, node, 1), 0);
            Bounds.due("one licence", bank.ofNode(0, node, 2), 1);
            bank.replace(0, node, 15);
            Bounds.due("the last piece", bank.ofNode(0, node, 1), 15);
            Bounds.due("all licences", bank.ofNode(0, node, 2), 63);
        }
    }

    @Says(promise = 19, sentence = "3 the set of NODES with which it CLASHES (itself, too, if it does)")
    static void clashesWithNoneItselfAndAll() {
        SnippetBank bank = withNodes(10);
        Bounds.due("none, as it is empty", bank.ofNode(0, 9, 3), 0);
        for (int node = 9; node >= 0; node--) {
            bank.replace(0, node, 0);
            Bounds.due("itself and those behind it", bank.ofNode(0, node, 3), 1024 - (1 << node));
            Bounds.due("the last one, too", bank.ofNode(0, 9, 3), 1024 - (1 << node));
        }
        bank.tell(0, -1);
        Bounds.due("none, as it is not bound", bank.ofNode(0, 9, 3), 0);
        SnippetBank other = Checks.withStrangers();
        other.licence(16, 0, true, 0);
        other.licence(0, 16, true, 0);
        other.tell(0, 0);
        other.tell(1, 1);
        Bounds.tenNodesOf(other, 0);
        Bounds.due("not itself, nor those that are the same", other.ofNode(0, 9, 3), 0);
        other.replace(0, 9, 1);
        Bounds.due("all but itself", other.ofNode(0, 9, 3), 511);
    }

    @Says(promise = 19, sentence = "4 how many NODES are ABOVE it")
    static void noneToNineNodesAbove() {
        SnippetBank bank = new SnippetBank();
        Bounds.tenInLine(bank);
        Bounds.due("the root", bank.ofNode(0, 0, 4), 0);
        Bounds.due("the last one", bank.ofNode(0, 9, 4), 9);
        bank.remove(0, 2);
        Bounds.due("below the root again", bank.node(0, 0, -1), 2);
        Bounds.due("one, not what was above that number before", bank.ofNode(0, 2, 4), 1);
    }

    @Says(promise = 19, sentence = "Throws `IndexOutOfBoundsException` if there is no such PROJECT, or NODE")
    static void ofNodesThatAreThere() {
        for (int what = 0; what <= 4; what++) {
            int asked = what;
            Bounds.refusedOutside(0, 1, "project of 2", Bounds::small, Bounds.INDEX, (bank, k) -> bank.ofNode(k, 0, asked));
            Bounds.refusedOutside(0, -1, "project of none", SnippetBank::new, Bounds.INDEX, (b, k) -> b.ofNode(k, 0, asked));
            Bounds.refusedOutside(0, 1, "node of 2", Bounds::small, Bounds.INDEX, (bank, k) -> bank.ofNode(0, k, asked));
            Bounds.refusedOutside(0, 0, "node of 1", Bounds::small, Bounds.INDEX, (bank, k) -> bank.ofNode(1, k, asked));
            Bounds.refused("one that is gone", BoundsOfProjectsTest::withGap, Bounds.INDEX, bank -> bank.ofNode(0, 1, asked));
        }
        Bounds.refusedOutside(0, 4, "project, full", Bounds::full, Bounds.INDEX, (bank, k) -> bank.ofNode(k, 9, 4));
        Bounds.refusedOutside(0, 9, "node, full", Bounds::full, Bounds.INDEX, (bank, k) -> bank.ofNode(4, k, 0));
        Bounds.due("the last node of the last project", Bounds.full().ofNode(4, 9, 0), 4);
    }

    @Says(promise = 19, sentence = "Throws `IllegalArgumentException` if what is not 0 to 4")
    static void ofNodeIsAskedZeroToFour() {
        Bounds.due("0", Bounds.small().ofNode(0, 1, 0), 0);
        Bounds.due("4", Bounds.small().ofNode(0, 1, 4), 1);
        Bounds.refusedOutside(0, 4, "ofNode", Bounds::small, Bounds.ARGUMENT, (bank, what) -> bank.ofNode(0, 1, what));
        Bounds.refusedOutside(0, 4, "ofNode, empty", Bounds::small, Bounds.ARGUMENT, (bank, what) -> bank.ofNode(1, 0, what));
    }

    @Says(promise = 20, sentence = "Returns whether it was")
    static void upOrDownBefore() {
        for (int duty = 0; duty < 5; duty++) {
            SnippetBank bank = rootAlone();
            Bounds.due("down at first", bank.notice(0, duty, false), false);
            Bounds.due("down still", bank.notice(0, duty, true), false);
            Bounds.due("up", bank.notice(0, duty, true), true);
            Bounds.due("the others are not", bank.ofProject(0, 4), 1 << duty);
            Bounds.due("up still", bank.notice(0, duty, false), true);
            Bounds.due("down again", bank.notice(0, duty, false), false);
            Bounds.due("none is up", bank.ofProject(0, 4), 0);
        }
        Bounds.asks("put up again", Bounds::small, true, bank -> bank.notice(0, 0, true));
        Bounds.asks("taken down again", Bounds::small, false, bank -> bank.notice(1, 4, false));
    }

    @Says(promise = 20, sentence = "Throws `IndexOutOfBoundsException` if there is no such PROJECT, or duty is not 0 to 4")
    static void noticesOfProjectsAndDutiesThereAre() {
        SnippetBank bank = withProjects(5);
        for (int duty = 0; duty <= 4; duty++) {
            bank.notice(4, duty, true);
            Bounds.due("notices", bank.ofProject(4, 4), (2 << duty) - 1);
        }
        Bounds.due("the other projects have their own", bank.ofProject(3, 4) + bank.ofProject(0, 4), 0);
        boolean[] upAndDown = {true, false};
        for (boolean isUp : upAndDown) {
            Bounds.refusedOutside(0, 4, "project, full", Bounds::full, Bounds.INDEX, (b, k) -> b.notice(k, 0, isUp));
            Bounds.refusedOutside(0, 1, "project of 2", Bounds::small, Bounds.INDEX, (b, k) -> b.notice(k, 0, isUp));
            Bounds.refusedOutside(0, -1, "project of none", SnippetBank::new, Bounds.INDEX, (b, k) -> b.notice(k, 4, isUp));
            Bounds.refusedOutside(0, 4, "duty, full", Bounds::full, Bounds.INDEX, (b, k) -> b.notice(3, k, isUp));
            Bounds.refusedOutside(0, 4, "duty", Bounds::small, Bounds.INDEX, (b, k) -> b.notice(0, k, isUp));
        }
    }

    @Says(promise = 21, sentence = "Returns how often it was RECALLED ever")
    static void recalledNeverOnceAndOften() {
        SnippetBank bank = withNodes(1);
        for (int duty = 0; duty < 5; duty++) {
            bank.notice(0, duty, true);
        }
        for (int often = 0; often <= 100; often++) {
            Bounds.due("ship", bank.ship(0), often);
            bank.replace(0, 0, 0);
            bank.replace(0, 0, -1);
        }
        bank.project();
        Bounds.due("another one", bank.ship(1), 0);
    }

    @Says(promise = 21, sentence = "Throws `IndexOutOfBoundsException` if there is no such PROJECT")
    static void shippedIfItIsThere() {
        Bounds.due("the first", withProjects(5).ship(0), 0);
        Bounds.due("the last", withProjects(5).ship(4), 0);
        Bounds.refusedOutside(0, 4, "ship, 5", () -> withProjects(5), Bounds.INDEX, SnippetBank::ship);
        Bounds.refusedOutside(0, 0, "ship, 1", BoundsOfProjectsTest::rootAlone, Bounds.INDEX, SnippetBank::ship);
        Bounds.refusedOutside(0, -1, "ship, none", SnippetBank::new, Bounds.INDEX, SnippetBank::ship);
    }

    /** A root with a piece that asks and forbids these; the notices of some duties are up. */
    private static SnippetBank rootWith(int asks, int forbids, int notices) {
        SnippetBank bank = Bounds.equals16();
        bank.licence(asks, forbids, false, 1);
        bank.tell(0, 0);
        bank.project();
        bank.replace(0, 0, 15);
        for (int duty = 0; duty < 5; duty++) {
            bank.notice(0, duty, (notices >> duty & 1) == 1);
        }
        return bank;
    }

    @Says(promise = 21, sentence = "Throws `IllegalStateException` if it is SHIPPED, has CLASHES, or OWES something")
    static void shippedOnlyInOrder() {
        Bounds.refused("shipped", Bounds::small, Bounds.STATE, bank -> bank.ship(0));
        Bounds.due("in order", rootWith(31, 0, 31).ship(0), 0);
        for (int duty = 0; duty < 5; duty++) {
            int set = 1 << duty;
            Bounds.due("asked, a notice is up", rootWith(set, 31 - set, set).ship(0), 0);
            Bounds.refused("one is owed", () -> rootWith(31, 0, 31 - set), Bounds.STATE, bank -> bank.ship(0));
            Bounds.refused("one is owed, all others are up", () -> rootWith(set, 0, 31 - set), Bounds.STATE, b -> b.ship(0));
            Bounds.refused("one clash", () -> rootWith(set, set, 31), Bounds.STATE, bank -> bank.ship(0));
            Bounds.refused("one clash, and owed", () -> rootWith(set, set, 0), Bounds.STATE, bank -> bank.ship(0));
        }
        Bounds.refused("recalled, and it still owes", BoundsOfProjectsTest::recalled, Bounds.STATE, bank -> bank.ship(0));
        SnippetBank bank = recalled();
        bank.notice(0, 4, true);
        Bounds.due("recalled, in order again", bank.ship(0), 1);
    }

    private static SnippetBank recalled() {
        SnippetBank bank = rootWith(16, 0, 16);
        bank.ship(0);
        bank.notice(0, 4, false);
        return bank;
    }

    @Says(promise = 22, sentence = "0 whether it is OPEN, SHIPPED or RECALLED, 1 how many NODES it has, 2 how many CLASHES")
    static void statesNodesAndClashes() {
        SnippetBank bank = withNodes(1);
        Bounds.due("open", bank.ofProject(0, 0), 0);
        bank.ship(0);
        Bounds.due("shipped", bank.ofProject(0, 0), 1);
        for (int nodes = 1; nodes <= 10; nodes++) {
            Bounds.due("nodes", bank.ofProject(0, 1), nodes);
            Bounds.due("clashes", bank.ofProject(0, 2), nodes * (nodes - 1) / 2);
            if (nodes < 10) {
                bank.node(0, 0, 0);
            }
        }
        Bounds.due("recalled", bank.ofProject(0, 0), 2);
        bank.replace(0, 0, 0);
        Bounds.due("all clashes that can be", bank.ofProject(0, 2), 55);
    }

    @Says(promise = 22, sentence = "3 the set of DUTIES that it OWES, 4 that of those of which NOTICES are up, 5 how often it was RECALLED ever, 6 the set of its NODES")
    static void noneAndAllOfEachSet() {
        SnippetBank bank = withNodes(10);
        int[] empty = {0, 10, 0, 0, 0, 0, 1023};
        for (int what = 0; what <= 6; what++) {
            Bounds.due("all empty: " + what, bank.ofProject(0, what), empty[what]);
        }
        bank.ship(0);
        bank.replace(0, 9, 15);
        int[] owing = {2, 10, 1, 31, 0, 1, 1023};
        for (int what = 0; what <= 6; what++) {
            Bounds.due("one piece: " + what, bank.ofProject(0, what), owing[what]);
        }
        for (int duty = 0; duty < 5; duty++) {
            bank.notice(0, duty, true);
        }
        bank.remove(0, 9);
        bank.remove(0, 1);
        int[] up = {2, 8, 0, 0, 31, 1, 1023 - 512 - 2};
        for (int what = 0; what <= 6; what++) {
            Bounds.due("all notices: " + what, bank.ofProject(0, what), up[what]);
        }
    }

    @Says(promise = 22, sentence = "Throws `IndexOutOfBoundsException` if there is no such PROJECT")
    static void ofProjectsThereAre() {
        for (int what = 0; what <= 6; what++) {
            int asked = what;
            Bounds.refusedOutside(0, -1, "none", SnippetBank::new, Bounds.INDEX, (bank, k) -> bank.ofProject(k, asked));
            Bounds.refusedOutside(0, 1, "of 2", Bounds::small, Bounds.INDEX, (bank, k) -> bank.ofProject(k, asked));
            Bounds.refusedOutside(0, 4, "full", Bounds::full, Bounds.INDEX, (bank, k) -> bank.ofProject(k, asked));
        }
        Bounds.due("the first", Bounds.full().ofProject(0, 6), 1023);
        Bounds.due("the last", Bounds.full().ofProject(4, 4), 31 - 4);
    }

    @Says(promise = 22, sentence = "Throws `IllegalArgumentException` if what is not 0 to 6")
    static void ofProjectIsAskedZeroToSix() {
        Bounds.due("0", Bounds.small().ofProject(0, 0), 1);
        Bounds.due("6", Bounds.small().ofProject(0, 6), 3);
        Bounds.refusedOutside(0, 6, "ofProject", Bounds::small, Bounds.ARGUMENT, (bank, what) -> bank.ofProject(1, what));
    }

    @Says(promise = 23, sentence = "0 TOKENS of the DRAFT, 1 PIECES, 2 LICENCES, 3 PROJECTS, 4 to 6 those that are OPEN, SHIPPED, RECALLED, 7 NODES of all")
    static void manyOfNoneAndOfAll() {
        int[] full = {12, 16, 6, 5, 2, 2, 1, 50};
        SnippetBank bank = Bounds.full();
        SnippetBank none = new SnippetBank();
        for (int what = 0; what <= 7; what++) {
            Bounds.due("full, many(" + what + ")", bank.many(what), full[what]);
            Bounds.due("none, many(" + what + ")", none.many(what), 0);
        }
        SnippetBank five = withNodes(1);
        for (int project = 1; project < 5; project++) {
            five.project();
        }
        Bounds.due("all open", five.many(4) * 100 + five.many(5) * 10 + five.many(6), 500);
        Bounds.shipAll(five);
        Bounds.due("all shipped", five.many(4) * 100 + five.many(5) * 10 + five.many(6), 50);
        for (int project = 0; project < 5; project++) {
            five.replace(project, 0, 15);
        }
        Bounds.due("all recalled", five.many(4) * 100 + five.many(5) * 10 + five.many(6), 5);
    }

    @Says(promise = 23, sentence = "8 PIECES that COME FROM none")
    static void fromNoneOneToSixteen() {
        Bounds.due("there is no piece", new SnippetBank().many(8), 0);
        Bounds.due("all but the first come from it", Bounds.equals16().many(8), 1);
        Bounds.due("all come from none", Bounds.strangers16().many(8), 16);
        SnippetBank bank = Bounds.line16();
        Bounds.due("a line", bank.many(8), 1);
        bank.nearness(67);
        Bounds.due("no line any more", bank.many(8), 16);
    }

    @Says(promise = 23, sentence = "9 what was granted ever, 10 NEARNESS")
    static void grantedUpToThirty() {
        SnippetBank bank = Bounds.equals16();
        for (int licence = 0; licence < 6; licence++) {
            bank.licence(31, 31, true, 5);
            bank.tell(licence, licence);
        }
        int granted = 0;
        for (int piece = 15; piece >= 10; piece--) {
            for (int licence = 0; licence < 6; licence++) {
                Bounds.due("ask(" + piece + ", " + licence + ")", bank.ask(piece, licence), piece > 10);
                granted += piece > 10 ? 1 : 0;
                Bounds.due("granted ever", bank.many(9), granted);
            }
        }
        Bounds.due("all that can be", bank.many(9), 30);
        bank.nearness(1);
        Bounds.due("the least nearness", bank.many(10), 1);
        bank.nearness(100);
        Bounds.due("the greatest nearness", bank.many(10), 100);
    }

    @Says(promise = 23, sentence = "Throws `IllegalArgumentException` if what is not 0 to 10")
    static void manyIsAskedZeroToTen() {
        Bounds.due("0", Bounds.small().many(0), 4);
        Bounds.due("10", Bounds.small().many(10), 60);
        Bounds.refusedOutside(0, 10, "many", Bounds::small, Bounds.ARGUMENT, SnippetBank::many);
        Bounds.refusedOutside(0, 10, "many of none", SnippetBank::new, Bounds.ARGUMENT, SnippetBank::many);
        Bounds.refusedOutside(0, 10, "many, full", Bounds::full, Bounds.ARGUMENT, SnippetBank::many);
    }

    @Says(promise = 24, sentence = "Returns the mean SHARE (each as it is told, cut) of each two PIECES, itself not cut")
    static void meanOfCutSharesIsNotCut() {
        SnippetBank bank = Checks.withChain();
        Bounds.due("(66 + 66 + 33) / 3", bank.meanShare(), 55.0);
        Checks.keepWords(bank, 13, 6);
        Bounds.due("(3 * 66 + 2 * 33 + 0) / 6", bank.meanShare(), 44.0);
        Checks.keepWords(bank, 24, 6);
        Bounds.due("264 / 10", bank.meanShare(), 26.4);
        Bounds.due("a line: (15 * 66 + 14 * 33) / 120", Bounds.line16().meanShare(), 1452.0 / 120.0);
        Bounds.due("the greatest", Bounds.equals16().meanShare(), 100.0);
        Bounds.due("the least", Bounds.strangers16().meanShare(), 0.0);
    }

    @Says(promise = 24, sentence = "0 with fewer than two")
    static void meanOfNoneOneAndTwo() {
        SnippetBank bank = new SnippetBank();
        Bounds.due("none", bank.meanShare(), 0.0);
        Checks.keepWords(bank, 10, 4);
        Bounds.due("one", bank.meanShare(), 0.0);
        bank.keep();
        Bounds.due("two", bank.meanShare(), 100.0);
    }

    public static void main(String[] args) throws IllegalAccessException {
        Bounds.run(BoundsOfProjectsTest.class);
    }
}
