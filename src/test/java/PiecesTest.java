/** Promises 1 to 10: a new object, the draft, the pieces, and what comes from what. */
public final class PiecesTest {
    private static final Checks checks = new Checks();

    private static void promise1NewObject() {
        SnippetBank bank = new SnippetBank();
        for (int what = 0; what <= 9; what++) {
            checks.due("1: many(" + what + ") of a new bank", bank.many(what), 0);
        }
        checks.due("1: many(10) of a new bank", bank.many(10), 60);
        checks.due("1: meanShare of a new bank", bank.meanShare(), 0.0);
        checks.refused("1: draft(0) of a new bank", bank, Checks.INDEX, () -> bank.draft(0));
        SnippetBank other = new SnippetBank();
        other.token(3);
        checks.due("1: another bank has a draft of its own", bank.many(0), 0);
    }

    private static void promise2Token() {
        SnippetBank bank = new SnippetBank();
        checks.refused("2: token(-1)", bank, Checks.ARGUMENT, () -> bank.token(-1));
        checks.refused("2: token(30)", bank, Checks.ARGUMENT, () -> bank.token(30));
        int[] row = {0, 29, 9, 10, 5, 5, 11, 12, 13, 14, 15, 16};
        for (int k = 0; k < 12; k++) {
            checks.due("2: token " + k, bank.token(row[k]), k + 1);
        }
        for (int k = 0; k < 12; k++) {
            checks.due("2: draft(" + k + ")", bank.draft(k), row[k]);
        }
        checks.refused("2: a 13th token", bank, Checks.STATE, () -> bank.token(1));
        checks.refused("2: a wrong 13th token", bank, Checks.ARGUMENT, () -> bank.token(30));
    }

    private static void promise3Cut() {
        SnippetBank bank = new SnippetBank();
        checks.due("3: cut of an empty draft", bank.cut(12), 0);
        Checks.write(bank, 10, 11, 12, 13, 14);
        checks.refused("3: cut(0)", bank, Checks.ARGUMENT, () -> bank.cut(0));
        checks.refused("3: cut(-1)", bank, Checks.ARGUMENT, () -> bank.cut(-1));
        checks.refused("3: cut(13)", bank, Checks.ARGUMENT, () -> bank.cut(13));
        checks.due("3: cut(2) of 5", bank.cut(2), 3);
        checks.due("3: what is first then", bank.draft(0), 12);
        checks.due("3: what is last then", bank.draft(2), 14);
        checks.due("3: it is written on behind", bank.token(7), 4);
        checks.due("3: the token there", bank.draft(3), 7);
        checks.due("3: cut(4) of 4", bank.cut(4), 0);
        Checks.write(bank, 10, 11, 12);
        checks.due("3: cut(12) of 3", bank.cut(12), 0);
    }

    private static void promise4Copy() {
        SnippetBank bank = new SnippetBank();
        checks.refused("4: copy without pieces", bank, Checks.INDEX, () -> bank.copy(0, 0));
        Checks.keep(bank, 0, 10, 7, 29, 9);
        Checks.write(bank, 1, 2, 3, 4, 5, 6, 7, 8);
        checks.due("4: copy(0, 3)", bank.copy(0, 3), 5);
        int[] due = {3, 10, 0, 29, 2};
        for (int k = 0; k < 5; k++) {
            checks.due("4: copied token " + k, bank.draft(k), due[k]);
        }
        checks.due("4: tokens of the draft", bank.many(0), 5);
        checks.due("4: the piece stays what it was", bank.copy(0, 0) * 100 + bank.draft(2), 507);
        checks.due("4: copy(0, 9)", bank.copy(0, 9), 5);
        checks.due("4: 0 + 9", bank.draft(0), 9);
        checks.due("4: (9 + 9) % 10", bank.draft(4), 8);
        checks.refused("4: copy(1, 0)", bank, Checks.INDEX, () -> bank.copy(1, 0));
        checks.refused("4: copy(-1, 0)", bank, Checks.INDEX, () -> bank.copy(-1, 0));
        checks.refused("4: copy(0, -1)", bank, Checks.ARGUMENT, () -> bank.copy(0, -1));
        checks.refused("4: copy(0, 10)", bank, Checks.ARGUMENT, () -> bank.copy(0, 10));
        checks.refused("4: copy(1, 10)", bank, Checks.INDEX, () -> bank.copy(1, 10));
    }

    private static void promise5Keep() {
        SnippetBank bank = new SnippetBank();
        Checks.write(bank, 10, 11, 12);
        checks.refused("5: keep of 3 tokens", bank, Checks.STATE, bank::keep);
        bank.token(13);
        checks.due("5: keep of 4 tokens", bank.keep(), 0);
        checks.due("5: they stay in the draft", bank.many(0) * 100 + bank.draft(3), 413);
        bank.token(5);
        checks.due("5: the piece is not changed with the draft", bank.ofPiece(0, 0), 4);
        for (int k = 1; k < 16; k++) {
            checks.due("5: keep", bank.keep(), k);
        }
        checks.refused("5: a 17th piece", bank, Checks.STATE, bank::keep);
        checks.due("5: pieces", bank.many(1), 16);
        bank.cut(12);
        checks.refused("5: keep of nothing", bank, Checks.STATE, bank::keep);
        checks.due("5: the last piece", bank.copy(15, 0) * 100 + bank.draft(4), 505);
    }

    private static void promise6Draft() {
        SnippetBank bank = new SnippetBank();
        Checks.write(bank, 9, 29, 0);
        checks.due("6: draft(0)", bank.draft(0), 9);
        checks.due("6: draft(1)", bank.draft(1), 29);
        checks.due("6: draft(2)", bank.draft(2), 0);
        checks.refused("6: draft(3)", bank, Checks.INDEX, () -> bank.draft(3));
        checks.refused("6: draft(-1)", bank, Checks.INDEX, () -> bank.draft(-1));
        checks.refused("6: draft(12)", bank, Checks.INDEX, () -> bank.draft(12));
        checks.refused("6: draft of the greatest number", bank, Checks.INDEX, () -> bank.draft(Integer.MAX_VALUE));
        Checks.write(bank, 0, 1, 2, 3, 4, 5, 6, 7, 8, 9, 10, 11);
        checks.due("6: draft(11)", bank.draft(11), 11);
        checks.refused("6: draft(12) of a full one", bank, Checks.INDEX, () -> bank.draft(12));
    }

    private static void promise7Scan() {
        SnippetBank bank = new SnippetBank();
        checks.refused("7: scan without pieces", bank, Checks.INDEX, () -> bank.scan(0));
        Checks.keepWords(bank, 10, 6);
        Checks.write(bank, 10, 11, 12);
        checks.due("7: scan with 3 tokens", bank.scan(0), 0);
        bank.token(13);
        checks.due("7: the draft has fewer prints", bank.scan(0), 100);
        bank.token(29);
        checks.due("7: 1 of 2", bank.scan(0), 50);
        bank.token(28);
        checks.due("7: 1 of 3", bank.scan(0), 33);
        bank.token(27);
        checks.due("7: the piece has fewer prints", bank.scan(0), 33);
        bank.cut(1);
        checks.due("7: none", bank.scan(0), 0);
        bank.copy(0, 4);
        checks.due("7: a copy", bank.scan(0), 100);
        checks.refused("7: scan(1)", bank, Checks.INDEX, () -> bank.scan(1));
        checks.refused("7: scan(-1)", bank, Checks.INDEX, () -> bank.scan(-1));
        bank.cut(12);
        checks.refused("7: scan(1) with no tokens", bank, Checks.INDEX, () -> bank.scan(1));
    }

    private static int shareOf(int[] one, int[] other) {
        SnippetBank bank = new SnippetBank();
        Checks.keep(bank, one);
        Checks.keep(bank, other);
        checks.due("8: the other way round", bank.share(1, 0), bank.share(0, 1));
        return bank.share(0, 1);
    }

    private static void promise8Share() {
        SnippetBank bank = Checks.withChain();
        Checks.keepWords(bank, 20, 4);
        checks.due("8: with itself", bank.share(1, 1), 100);
        checks.due("8: 2 of 3", bank.share(0, 1), 66);
        checks.due("8: 1 of 3", bank.share(2, 0), 33);
        checks.due("8: none", bank.share(0, 3), 0);
        checks.refused("8: share(0, 4)", bank, Checks.INDEX, () -> bank.share(0, 4));
        checks.refused("8: share(4, 0)", bank, Checks.INDEX, () -> bank.share(4, 0));
        checks.refused("8: share(-1, 0)", bank, Checks.INDEX, () -> bank.share(-1, 0));
        checks.refused("8: share(0, -1)", bank, Checks.INDEX, () -> bank.share(0, -1));
        checks.due("8: the one with fewer counts",
                shareOf(new int[] {10, 11, 12, 13, 20, 21, 22, 23}, new int[] {9, 10, 11, 12, 13}), 50);
    }

    private static void printsDoNotCareForNames() {
        checks.due("8: other names", shareOf(new int[] {0, 10, 1, 0}, new int[] {5, 10, 3, 5}), 100);
        checks.due("8: names in turn", shareOf(new int[] {0, 1, 0, 1}, new int[] {1, 0, 1, 0}), 100);
        checks.due("8: four names", shareOf(new int[] {3, 1, 2, 0}, new int[] {6, 7, 8, 9}), 100);
        checks.due("8: another name is the same again", shareOf(new int[] {0, 10, 1, 0}, new int[] {5, 10, 3, 3}), 0);
        checks.due("8: all names the same", shareOf(new int[] {0, 10, 1, 0}, new int[] {5, 10, 5, 5}), 0);
        checks.due("8: 0 0 1 2 and 0 1 0 2", shareOf(new int[] {0, 0, 1, 2}, new int[] {0, 1, 0, 2}), 0);
        checks.due("8: 0 1 1 2 and 0 1 2 2", shareOf(new int[] {0, 1, 1, 2}, new int[] {0, 1, 2, 2}), 0);
        checks.due("8: a word for a name", shareOf(new int[] {0, 10, 11, 12}, new int[] {13, 10, 11, 12}), 0);
        checks.due("8: another word", shareOf(new int[] {0, 10, 11, 12}, new int[] {0, 10, 11, 13}), 0);
        checks.due("8: words at other places", shareOf(new int[] {0, 10, 11, 12}, new int[] {10, 0, 11, 12}), 0);
        checks.due("8: each print is told for itself",
                shareOf(new int[] {4, 10, 10, 10, 4}, new int[] {4, 10, 10, 10, 5}), 100);
    }

    private static void promise9OfPiece() {
        SnippetBank bank = Checks.withChain();
        Checks.keep(bank, 10, 10, 10, 10, 10, 10, 10);
        Checks.keep(bank, 0, 1, 0, 1, 0, 1);
        Checks.keep(bank, 20, 21, 22, 23, 24, 25, 26, 27, 28, 29, 0, 1);
        checks.due("9: tokens", bank.ofPiece(0, 0), 6);
        checks.due("9: tokens of the longest", bank.ofPiece(5, 0), 12);
        checks.due("9: prints", bank.ofPiece(0, 1), 3);
        checks.due("9: a print counts once", bank.ofPiece(3, 1), 1);
        checks.due("9: a print with other names counts once", bank.ofPiece(4, 1), 1);
        checks.due("9: prints of the longest", bank.ofPiece(5, 1), 9);
        checks.due("9: comes from none", bank.ofPiece(0, 5), 0);
        checks.due("9: comes from the one before", bank.ofPiece(1, 5), 1);
        checks.due("9: comes from all before", bank.ofPiece(2, 5), 3);
        checks.due("9: come from 0", bank.ofPiece(0, 6), 6);
        checks.due("9: come from 1", bank.ofPiece(1, 6), 4);
        checks.due("9: come from 2", bank.ofPiece(2, 6), 0);
        checks.due("9: comes from none, too", bank.ofPiece(3, 5), 0);
        promise9Licences(bank);
        promise9Nodes(bank);
        checks.refused("9: ofPiece(6, 0)", bank, Checks.INDEX, () -> bank.ofPiece(6, 0));
        checks.refused("9: ofPiece(-1, 0)", bank, Checks.INDEX, () -> bank.ofPiece(-1, 0));
        checks.refused("9: ofPiece(0, 8)", bank, Checks.ARGUMENT, () -> bank.ofPiece(0, 8));
        checks.refused("9: ofPiece(0, -1)", bank, Checks.ARGUMENT, () -> bank.ofPiece(0, -1));
        checks.refused("9: ofPiece(6, 8)", bank, Checks.INDEX, () -> bank.ofPiece(6, 8));
    }

    private static void promise9Licences(SnippetBank bank) {
        bank.licence(0, 0, false, 5);
        bank.licence(0, 0, false, 5);
        bank.licence(0, 0, false, 5);
        checks.due("9: no own licence", bank.ofPiece(0, 2), -1);
        checks.due("9: bound by none", bank.ofPiece(0, 3), 0);
        bank.tell(0, 1);
        bank.tell(1, 2);
        checks.due("9: own licence", bank.ofPiece(0, 2), 1);
        checks.due("9: own licence of 2", bank.ofPiece(2, 2), -1);
        checks.due("9: bound by its own", bank.ofPiece(0, 3), 2);
        checks.due("9: bound by the near one's, too", bank.ofPiece(1, 3), 6);
        checks.due("9: bound through the near one", bank.ofPiece(2, 3), 6);
        checks.due("9: freed of none", bank.ofPiece(1, 4), 0);
        bank.ask(1, 1);
        checks.due("9: freed", bank.ofPiece(1, 4), 2);
        checks.due("9: not bound any more", bank.ofPiece(1, 3), 4);
        checks.due("9: nor those behind it", bank.ofPiece(2, 3), 4);
        checks.due("9: but the one before", bank.ofPiece(0, 3), 2);
        checks.due("9: what it comes from is the same", bank.ofPiece(2, 5), 3);
        bank.nearness(33);
        checks.due("9: bound by one that is near now", bank.ofPiece(2, 3), 6);
    }

    private static void comesFromTwo() {
        SnippetBank bank = Checks.withStrangers();
        Checks.keep(bank, 10, 11, 12, 13, 18, 19, 20, 21);
        bank.copy(5, 0);
        bank.keep();
        checks.due("9: 1 of 1 print, from 0 and 2", bank.ofPiece(5, 5), 1 + 4);
        checks.due("9: a copy of it comes from it, too", bank.ofPiece(6, 5), 1 + 4 + 32);
        checks.due("9: what comes from 2", bank.ofPiece(2, 6), 32 + 64);
        for (int licence = 0; licence < 3; licence++) {
            bank.licence(0, 0, false, 3);
            bank.tell(2 * licence, licence);
        }
        bank.tell(5, 2);
        checks.due("9: bound by all three", bank.ofPiece(5, 3), 7);
        bank.ask(5, 0);
        bank.ask(5, 2);
        checks.due("9: freed of two", bank.ofPiece(5, 4), 1 + 4);
        checks.due("9: bound by the third", bank.ofPiece(5, 3), 2);
        checks.due("9: the copy is near to 0 itself", bank.ofPiece(6, 3), 1 + 2);
    }

    private static void promise9Nodes(SnippetBank bank) {
        checks.due("9: in no node", bank.ofPiece(3, 7), 0);
        bank.project();
        bank.project();
        bank.replace(0, 0, 3);
        bank.node(0, 0, 3);
        bank.node(1, 0, 3);
        bank.node(1, 0, 4);
        checks.due("9: in nodes of all projects", bank.ofPiece(3, 7), 3);
        bank.remove(0, 1);
        checks.due("9: not in a node that is gone", bank.ofPiece(3, 7), 2);
        bank.replace(1, 1, -1);
        checks.due("9: not in an empty one", bank.ofPiece(3, 7), 1);
    }

    private static void promise10Nearness() {
        SnippetBank bank = Checks.withChain();
        checks.refused("10: nearness(0)", bank, Checks.ARGUMENT, () -> bank.nearness(0));
        checks.refused("10: nearness(-1)", bank, Checks.ARGUMENT, () -> bank.nearness(-1));
        checks.refused("10: nearness(101)", bank, Checks.ARGUMENT, () -> bank.nearness(101));
        checks.due("10: nearness(66)", bank.nearness(66), 0);
        checks.due("10: 66 is near", bank.ofPiece(1, 5), 1);
        bank.nearness(67);
        checks.due("10: 66 is not near", bank.ofPiece(1, 5), 0);
        checks.due("10: many(10)", bank.many(10), 67);
        checks.due("10: nearness(1)", bank.nearness(1), 0);
        checks.due("10: nearness(100)", bank.nearness(100), 0);
        promise10Recalls(bank);
    }

    private static void promise10Recalls(SnippetBank bank) {
        bank.licence(1, 0, false, 0);
        bank.tell(0, 0);
        for (int project = 0; project < 3; project++) {
            bank.project();
            bank.replace(project, 0, project);
        }
        bank.ship(1);
        bank.ship(2);
        checks.due("10: nothing is near", bank.nearness(67), 0);
        checks.due("10: two are recalled", bank.nearness(66), 2);
        checks.due("10: 1 is recalled", bank.ofProject(1, 0), 2);
        checks.due("10: 0 was open", bank.ofProject(0, 0), 0);
        checks.due("10: they stay recalled", bank.nearness(100) * 10 + bank.ofProject(2, 0), 2);
        bank.ship(2);
        checks.due("10: 2 alone is shipped", bank.nearness(33), 1);
        checks.due("10: 2 was recalled twice", bank.ofProject(2, 5), 2);
        checks.due("10: 1 once", bank.ofProject(1, 5), 1);
    }

    public static void main(String[] args) {
        promise1NewObject();
        promise2Token();
        promise3Cut();
        promise4Copy();
        promise5Keep();
        promise6Draft();
        promise7Scan();
        promise8Share();
        printsDoNotCareForNames();
        promise9OfPiece();
        comesFromTwo();
        promise10Nearness();
        checks.end();
    }
}
