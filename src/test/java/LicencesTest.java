/** Promises 11 to 14: licences, whom they bind, and what their holders grant. */
public final class LicencesTest {
    private static final Checks checks = new Checks();

    private static void promise11Licence() {
        SnippetBank bank = new SnippetBank();
        checks.refused("11: asks -1", bank, Checks.ARGUMENT, () -> bank.licence(-1, 0, false, 0));
        checks.refused("11: asks 32", bank, Checks.ARGUMENT, () -> bank.licence(32, 0, false, 0));
        checks.refused("11: forbids -1", bank, Checks.ARGUMENT, () -> bank.licence(0, -1, false, 0));
        checks.refused("11: forbids 32", bank, Checks.ARGUMENT, () -> bank.licence(0, 32, false, 0));
        checks.refused("11: patience -1", bank, Checks.ARGUMENT, () -> bank.licence(0, 0, false, -1));
        checks.refused("11: patience 6", bank, Checks.ARGUMENT, () -> bank.licence(0, 0, false, 6));
        checks.due("11: licence 0", bank.licence(31, 0, true, 5), 0);
        checks.due("11: licence 1", bank.licence(0, 31, false, 0), 1);
        for (int k = 2; k < 6; k++) {
            checks.due("11: licence", bank.licence(k, 0, false, k - 1), k);
        }
        checks.due("11: licences", bank.many(2), 6);
        checks.refused("11: a 7th licence", bank, Checks.STATE, () -> bank.licence(0, 0, false, 0));
        checks.refused("11: a wrong 7th licence", bank, Checks.ARGUMENT, () -> bank.licence(0, 0, false, 6));
    }

    private static void promise12OfLicence() {
        SnippetBank bank = Checks.withChain();
        checks.refused("12: without licences", bank, Checks.INDEX, () -> bank.ofLicence(0, 0));
        bank.licence(3, 12, true, 4);
        bank.licence(12, 0, false, 0);
        bank.licence(0, 2, false, 1);
        bank.licence(16, 17, false, 1);
        checks.due("12: asks", bank.ofLicence(0, 0), 3);
        checks.due("12: forbids", bank.ofLicence(0, 1), 12);
        checks.due("12: strong", bank.ofLicence(0, 2), 1);
        checks.due("12: not strong", bank.ofLicence(1, 2), 0);
        checks.due("12: patience", bank.ofLicence(0, 3), 4);
        checks.due("12: clashes with what asks, what forbids, and both", bank.ofLicence(0, 4), 2 + 4 + 8);
        checks.due("12: clashes with what forbids that", bank.ofLicence(1, 4), 1);
        checks.due("12: clashes with what asks that", bank.ofLicence(2, 4), 1);
        checks.due("12: clashes with itself, too", bank.ofLicence(3, 4), 1 + 8);
        checks.due("12: binds none", bank.ofLicence(0, 5), 0);
        bank.tell(1, 0);
        checks.due("12: binds two", bank.ofLicence(0, 5), 2);
        bank.ask(2, 0);
        checks.due("12: binds one", bank.ofLicence(0, 5), 1);
        checks.due("12: patience is less", bank.ofLicence(0, 3), 3);
        bank.tell(0, 1);
        checks.due("12: binds all", bank.ofLicence(1, 5), 3);
        checks.refused("12: ofLicence(4, 0)", bank, Checks.INDEX, () -> bank.ofLicence(4, 0));
        checks.refused("12: ofLicence(-1, 0)", bank, Checks.INDEX, () -> bank.ofLicence(-1, 0));
        checks.refused("12: ofLicence(0, 6)", bank, Checks.ARGUMENT, () -> bank.ofLicence(0, 6));
        checks.refused("12: ofLicence(0, -1)", bank, Checks.ARGUMENT, () -> bank.ofLicence(0, -1));
        checks.refused("12: ofLicence(4, 6)", bank, Checks.INDEX, () -> bank.ofLicence(4, 6));
    }

    private static void promise13Tell() {
        SnippetBank bank = Checks.withChain();
        checks.refused("13: tell(0, 0) without licences", bank, Checks.INDEX, () -> bank.tell(0, 0));
        checks.due("13: tell(0, NONE)", bank.tell(0, -1), 0);
        bank.licence(1, 0, false, 0);
        bank.licence(2, 0, false, 0);
        checks.due("13: tell(1, 1)", bank.tell(1, 1), 0);
        checks.due("13: its own", bank.ofPiece(1, 2), 1);
        checks.due("13: an earlier one is not bound", bank.ofPiece(0, 3), 0);
        checks.due("13: a later one is", bank.ofPiece(2, 3), 2);
        bank.tell(1, 0);
        checks.due("13: in place of the one before", bank.ofPiece(1, 3), 1);
        checks.due("13: for the later one, too", bank.ofPiece(2, 3), 1);
        bank.tell(1, -1);
        checks.due("13: none again", bank.ofPiece(1, 2), -1);
        checks.due("13: bound by none again", bank.ofPiece(2, 3), 0);
        checks.refused("13: tell(3, 0)", bank, Checks.INDEX, () -> bank.tell(3, 0));
        checks.refused("13: tell(-1, 0)", bank, Checks.INDEX, () -> bank.tell(-1, 0));
        checks.refused("13: tell(0, 2)", bank, Checks.INDEX, () -> bank.tell(0, 2));
        checks.refused("13: tell(0, -2)", bank, Checks.INDEX, () -> bank.tell(0, -2));
        promise13Recalls(bank);
    }

    private static void promise13Recalls(SnippetBank bank) {
        for (int project = 0; project < 3; project++) {
            bank.project();
            bank.replace(project, 0, project);
            bank.ship(project);
        }
        checks.due("13: two are recalled", bank.tell(1, 0), 2);
        checks.due("13: 0 is not", bank.ofProject(0, 0), 1);
        checks.due("13: 1 is", bank.ofProject(1, 0), 2);
        checks.due("13: 2 is", bank.ofProject(2, 0), 2);
        checks.due("13: those are recalled already", bank.tell(1, 1), 0);
        bank.tell(1, -1);
        checks.due("13: they stay recalled", bank.ofProject(1, 0), 2);
        checks.due("13: 0 is recalled", bank.tell(0, 1), 1);
        checks.due("13: what is kept later is bound, too", bound(bank), 2);
    }

    private static int bound(SnippetBank bank) {
        bank.copy(2, 0);
        return bank.ofPiece(bank.keep(), 3);
    }

    private static void promise14Ask() {
        SnippetBank bank = Checks.withChain();
        bank.licence(1, 0, false, 2);
        bank.licence(0, 1, false, 0);
        bank.tell(0, 0);
        checks.due("14: granted", bank.ask(1, 0), true);
        checks.due("14: patience is 1 less", bank.ofLicence(0, 3), 1);
        checks.due("14: freed", bank.ofPiece(1, 4), 1);
        checks.due("14: granted ever", bank.many(9), 1);
        checks.due("14: those behind are not bound", bank.ofPiece(2, 3), 0);
        checks.refused("14: asked again", bank, Checks.STATE, () -> bank.ask(1, 0));
        bank.tell(1, 0);
        checks.due("14: freed of its own for good", bank.ofPiece(1, 3), 0);
        bank.tell(2, 1);
        String before = Checks.stateOf(bank);
        checks.due("14: no patience", bank.ask(2, 1), false);
        checks.due("14: nothing is done", Checks.stateOf(bank), before);
        checks.due("14: one freed of its own", bank.ask(0, 0), true);
        checks.due("14: it still has it", bank.ofPiece(0, 2), 0);
        checks.due("14: but is not bound", bank.ofPiece(0, 3), 0);
        bank.tell(2, 0);
        checks.due("14: patience has ended", bank.ask(2, 0), false);
        checks.due("14: granted ever, at the end", bank.many(9), 2);
        checks.refused("14: a piece that is not bound", bank, Checks.STATE, () -> bank.ask(0, 1));
        checks.refused("14: ask(3, 0)", bank, Checks.INDEX, () -> bank.ask(3, 0));
        checks.refused("14: ask(-1, 0)", bank, Checks.INDEX, () -> bank.ask(-1, 0));
        checks.refused("14: ask(0, 2)", bank, Checks.INDEX, () -> bank.ask(0, 2));
        checks.refused("14: ask(0, -1)", bank, Checks.INDEX, () -> bank.ask(0, -1));
    }

    private static void askEndsClashes() {
        SnippetBank bank = Checks.withStrangers();
        bank.licence(1, 1, false, 1);
        bank.tell(0, 0);
        bank.project();
        bank.replace(0, 0, 0);
        bank.notice(0, 0, true);
        checks.refused("14: shipped with a clash", bank, Checks.STATE, () -> bank.ship(0));
        bank.ask(0, 0);
        checks.due("14: shipped without", bank.ship(0), 0);
    }

    public static void main(String[] args) {
        promise11Licence();
        promise12OfLicence();
        promise13Tell();
        promise14Ask();
        askEndsClashes();
        checks.end();
    }
}
