/** A bank of code pieces, with their licences, and the projects that use them. */
public final class SnippetBank {
    private static final int NONE = -1;

    private static final int NAME_KINDS = 10;
    private static final int TOKEN_KINDS = 30;
    private static final int ROW_LIMIT = 12;
    private static final int PRINT_LENGTH = 4;
    private static final int PRINT_LIMIT = ROW_LIMIT - PRINT_LENGTH + 1;
    private static final int PIECE_LIMIT = 16;
    private static final int FULL_SHARE = 100;
    private static final int FIRST_NEARNESS = 60;

    private static final int DUTY_KINDS = 5;
    private static final int DUTY_SETS = 1 << DUTY_KINDS;
    private static final int PATIENCE_LIMIT = 5;
    private static final int LICENCE_LIMIT = 6;

    private static final int PROJECT_LIMIT = 5;
    private static final int NODE_LIMIT = 10;
    private static final int ROOT = 0;
    private static final int OPEN = 0;
    private static final int SHIPPED = 1;
    private static final int RECALLED = 2;

    private static final long DIGEST_START = 58109L;
    private static final int QUESTIONS_OF_PIECE = 8;
    private static final int QUESTIONS_OF_LICENCE = 6;
    private static final int QUESTIONS_OF_PROJECT = 7;
    private static final int QUESTIONS_OF_NODE = 5;
    private static final int QUESTIONS_OF_ALL = 11;

    private final Row draftRow = new Row();
    private final Piece[] pieces = new Piece[PIECE_LIMIT];
    private final int[][] shares = new int[PIECE_LIMIT][PIECE_LIMIT];
    private final int[] origins = new int[PIECE_LIMIT];
    private final Licence[] licences = new Licence[LICENCE_LIMIT];
    private final Project[] projects = new Project[PROJECT_LIMIT];
    private final Binding binding = new Binding();
    private final Binding supposed = new Binding();
    private int pieceCount = 0;
    private int licenceCount = 0;
    private int projectCount = 0;
    private int grantedCount = 0;
    private int nearLimit = FIRST_NEARNESS;

    public SnippetBank() {
        for (int piece = 0; piece < PIECE_LIMIT; piece++) {
            pieces[piece] = new Piece();
        }
        for (int licence = 0; licence < LICENCE_LIMIT; licence++) {
            licences[licence] = new Licence();
        }
        for (int project = 0; project < PROJECT_LIMIT; project++) {
            projects[project] = new Project();
        }
    }

    // ---- pieces

    public int token(int token) throws IllegalArgumentException, IllegalStateException {
        if (token < 0 || token >= TOKEN_KINDS) {
            throw new IllegalArgumentException("a token is 0 to 29");
        }
        if (draftRow.length >= ROW_LIMIT) {
            throw new IllegalStateException("the draft is full");
        }
        draftRow.append(token);
        return draftRow.length;
    }

    public int cut(int many) throws IllegalArgumentException {
        if (many < 1 || many > ROW_LIMIT) {
            throw new IllegalArgumentException("1 to 12 tokens are cut");
        }
        draftRow.dropFirst(many);
        return draftRow.length;
    }

    public int copy(int piece, int shift) throws IndexOutOfBoundsException, IllegalArgumentException {
        needPiece(piece);
        if (shift < 0 || shift >= NAME_KINDS) {
            throw new IllegalArgumentException("a shift is 0 to 9");
        }
        draftRow.become(pieces[piece].row, shift);
        return draftRow.length;
    }

    public int keep() throws IllegalStateException {
        if (draftRow.length < PRINT_LENGTH) {
            throw new IllegalStateException("a piece has 4 tokens at least");
        }
        if (pieceCount >= PIECE_LIMIT) {
            throw new IllegalStateException("there are 16 pieces");
        }
        int piece = pieceCount;
        pieces[piece].row.become(draftRow, 0);
        pieceCount = piece + 1;
        takeShares(piece);
        settle();
        return piece;
    }

    public int draft(int k) throws IndexOutOfBoundsException {
        if (k < 0 || k >= draftRow.length) {
            throw new IndexOutOfBoundsException("no such place in the draft");
        }
        return draftRow.tokens[k];
    }

    public int scan(int piece) throws IndexOutOfBoundsException {
        needPiece(piece);
        return draftRow.shareWith(pieces[piece].row);
    }

    public int share(int one, int other) throws IndexOutOfBoundsException {
        needPiece(one);
        needPiece(other);
        return shares[one][other];
    }

    public int ofPiece(int piece, int what) throws IndexOutOfBoundsException, IllegalArgumentException {
        needPiece(piece);
        Piece asked = pieces[piece];
        switch (what) {
            case 0:
                return asked.row.length;
            case 1:
                return asked.row.printCount;
            case 2:
                return asked.own;
            case 3:
                return binding.licencesOf(piece);
            case 4:
                return asked.freed;
            case 5:
                return origins[piece];
            case 6:
                return offspring(piece);
            case 7:
                return usesOf(piece);
            default:
                throw new IllegalArgumentException("a piece is asked 0 to 7");
        }
    }

    public int nearness(int nearness) throws IllegalArgumentException {
        needNearness(nearness);
        nearLimit = nearness;
        return settle();
    }

    // ---- licences

    public int licence(int asks, int forbids, boolean isStrong, int patience)
            throws IllegalArgumentException, IllegalStateException {
        if (asks < 0 || asks >= DUTY_SETS || forbids < 0 || forbids >= DUTY_SETS) {
            throw new IllegalArgumentException("a set of duties is 0 to 31");
        }
        if (patience < 0 || patience > PATIENCE_LIMIT) {
            throw new IllegalArgumentException("patience is 0 to 5");
        }
        if (licenceCount >= LICENCE_LIMIT) {
            throw new IllegalStateException("there are 6 licences");
        }
        int licence = licenceCount;
        Licence added = licences[licence];
        added.asks = asks;
        added.forbids = forbids;
        added.isStrong = isStrong;
        added.patience = patience;
        licenceCount = licence + 1;
        takeRivals(licence);
        settle();
        return licence;
    }

    public int ofLicence(int licence, int what) throws IndexOutOfBoundsException, IllegalArgumentException {
        needLicence(licence);
        Licence asked = licences[licence];
        switch (what) {
            case 0:
                return asked.asks;
            case 1:
                return asked.forbids;
            case 2:
                return asked.isStrong ? 1 : 0;
            case 3:
                return asked.patience;
            case 4:
                return asked.rivals;
            case 5:
                return piecesBoundBy(licence);
            default:
                throw new IllegalArgumentException("a licence is asked 0 to 5");
        }
    }

    public int tell(int piece, int licence) throws IndexOutOfBoundsException {
        needPiece(piece);
        if (licence != NONE) {
            needLicence(licence);
        }
        pieces[piece].own = licence;
        return settle();
    }

    public boolean ask(int piece, int licence) throws IndexOutOfBoundsException, IllegalStateException {
        needPiece(piece);
        needLicence(licence);
        if (!hasBit(binding.licencesOf(piece), licence)) {
            throw new IllegalStateException("the piece is not bound by this licence");
        }
        Licence asked = licences[licence];
        if (asked.patience <= 0) {
            return false;
        }
        asked.patience--;
        pieces[piece].freed |= 1 << licence;
        grantedCount++;
        settle();
        return true;
    }

    // ---- projects

    public int project() throws IllegalStateException {
        if (projectCount >= PROJECT_LIMIT) {
            throw new IllegalStateException("there are 5 projects");
        }
        int project = projectCount;
        projectCount = project + 1;
        return project;
    }

    public int node(int project, int parent, int piece) throws IndexOutOfBoundsException, IllegalStateException {
        needNode(project, parent);
        if (piece != NONE) {
            needPiece(piece);
        }
        int node = projects[project].firstFreeNode();
        if (node == NONE) {
            throw new IllegalStateException("there are 10 nodes");
        }
        projects[project].grow(node, parent, piece);
        settle();
        return node;
    }

    public int replace(int project, int node, int piece) throws IndexOutOfBoundsException {
        needNode(project, node);
        if (piece != NONE) {
            needPiece(piece);
        }
        int[] contents = projects[project].contents;
        int before = contents[node];
        contents[node] = piece;
        settle();
        return before;
    }

    public int remove(int project, int node) throws IndexOutOfBoundsException, IllegalStateException {
        needNode(project, node);
        if (node == ROOT) {
            throw new IllegalStateException("the root is always there");
        }
        int gone = projects[project].prune(node);
        settle();
        return gone;
    }

    public int ofNode(int project, int node, int what) throws IndexOutOfBoundsException, IllegalArgumentException {
        needNode(project, node);
        Project asked = projects[project];
        switch (what) {
            case 0:
                return asked.parents[node];
            case 1:
                return asked.contents[node];
            case 2:
                return binding.licencesOf(asked.contents[node]);
            case 3:
                return asked.clashesOf(node, asked.contents[node], binding);
            case 4:
                return Integer.bitCount(asked.above[node]);
            default:
                throw new IllegalArgumentException("a node is asked 0 to 4");
        }
    }

    public boolean notice(int project, int duty, boolean isUp) throws IndexOutOfBoundsException {
        needProject(project);
        if (duty < 0 || duty >= DUTY_KINDS) {
            throw new IndexOutOfBoundsException("a duty is 0 to 4");
        }
        Project changed = projects[project];
        boolean wasUp = hasBit(changed.notices, duty);
        if (isUp) {
            changed.notices |= 1 << duty;
        } else {
            changed.notices &= ~(1 << duty);
        }
        settle();
        return wasUp;
    }

    public int ship(int project) throws IndexOutOfBoundsException, IllegalStateException {
        needProject(project);
        Project shipped = projects[project];
        if (shipped.state == SHIPPED) {
            throw new IllegalStateException("the project is shipped");
        }
        if (!shipped.isInOrder(binding)) {
            throw new IllegalStateException("the project has clashes, or owes something");
        }
        shipped.state = SHIPPED;
        return shipped.recalls;
    }

    public int ofProject(int project, int what) throws IndexOutOfBoundsException, IllegalArgumentException {
        needProject(project);
        Project asked = projects[project];
        switch (what) {
            case 0:
                return asked.state;
            case 1:
                return Integer.bitCount(asked.nodes);
            case 2:
                return asked.countClashes(binding);
            case 3:
                return asked.duties(binding);
            case 4:
                return asked.notices;
            case 5:
                return asked.recalls;
            case 6:
                return asked.nodes;
            default:
                throw new IllegalArgumentException("a project is asked 0 to 6");
        }
    }

    public int many(int what) throws IllegalArgumentException {
        switch (what) {
            case 0:
                return draftRow.length;
            case 1:
                return pieceCount;
            case 2:
                return licenceCount;
            case 3:
                return projectCount;
            case 4:
                return projectsThatAre(OPEN);
            case 5:
                return projectsThatAre(SHIPPED);
            case 6:
                return projectsThatAre(RECALLED);
            case 7:
                return nodesOfAll();
            case 8:
                return firstPieces();
            case 9:
                return grantedCount;
            case 10:
                return nearLimit;
            default:
                throw new IllegalArgumentException("the bank is asked 0 to 10");
        }
    }

    public double meanShare() {
        int sum = 0;
        int pairs = 0;
        for (int one = 0; one < pieceCount; one++) {
            for (int other = 0; other < one; other++) {
                sum += shares[one][other];
                pairs++;
            }
        }
        if (pairs == 0) {
            return 0.0;
        }
        return (double) sum / (double) pairs;
    }

    // ---- what would be (nothing is changed)

    public int recalledBy(int piece, int licence) throws IndexOutOfBoundsException {
        needPiece(piece);
        needLicence(licence);
        bind(supposed, nearLimit, piece, licence);
        int recalled = 0;
        for (int project = 0; project < projectCount; project++) {
            if (projects[project].isRecalledUnder(supposed)) {
                recalled |= 1 << project;
            }
        }
        return recalled;
    }

    public int clashesWith(int project, int node, int piece) throws IndexOutOfBoundsException {
        needNode(project, node);
        needPiece(piece);
        Project asked = projects[project];
        int now = asked.clashesOf(node, asked.contents[node], binding);
        int then = asked.clashesOf(node, piece, binding);
        return asked.countClashes(binding) - Integer.bitCount(now) + Integer.bitCount(then);
    }

    public int remedy(int project) throws IndexOutOfBoundsException {
        needProject(project);
        return projects[project].fewestToEmpty(binding);
    }

    public int substitute(int project, int node) throws IndexOutOfBoundsException {
        needNode(project, node);
        Project asked = projects[project];
        int present = asked.contents[node];
        if (present == NONE) {
            return NONE;
        }
        int best = NONE;
        int bestShare = NONE;
        for (int piece = 0; piece < pieceCount; piece++) {
            int likeness = shares[present][piece];
            if (piece != present && likeness > bestShare && asked.clashesOf(node, piece, binding) == 0) {
                best = piece;
                bestShare = likeness;
            }
        }
        return best;
    }

    public int boundWith(int nearness) throws IllegalArgumentException {
        needNearness(nearness);
        bind(supposed, nearness, NONE, NONE);
        int others = 0;
        for (int piece = 0; piece < pieceCount; piece++) {
            if (supposed.licencesOf(piece) != binding.licencesOf(piece)) {
                others++;
            }
        }
        return others;
    }

    public long digest() {
        long sum = DIGEST_START;
        for (int what = 0; what < QUESTIONS_OF_ALL; what++) {
            sum = fold(sum, many(what));
        }
        for (int piece = 0; piece < pieceCount; piece++) {
            sum = foldPiece(sum, piece);
        }
        for (int licence = 0; licence < licenceCount; licence++) {
            sum = foldLicence(sum, licence);
        }
        for (int project = 0; project < projectCount; project++) {
            sum = foldProject(sum, project);
        }
        sum = fold(sum, boundWith(30));
        return fold(sum, boundWith(90));
    }

    private static long fold(long sum, int value) {
        return sum * 31L + value;
    }

    private long foldPiece(long before, int piece) {
        long sum = before;
        for (int what = 0; what < QUESTIONS_OF_PIECE; what++) {
            sum = fold(sum, ofPiece(piece, what));
        }
        sum = fold(sum, scan(piece));
        if (piece + 1 < pieceCount) {
            sum = fold(sum, share(piece, piece + 1));
        }
        return sum;
    }

    private long foldLicence(long before, int licence) {
        long sum = before;
        for (int what = 0; what < QUESTIONS_OF_LICENCE; what++) {
            sum = fold(sum, ofLicence(licence, what));
        }
        return sum;
    }

    private long foldProject(long before, int project) {
        long sum = before;
        for (int what = 0; what < QUESTIONS_OF_PROJECT; what++) {
            sum = fold(sum, ofProject(project, what));
        }
        sum = fold(sum, remedy(project));
        for (int node = 0; node < NODE_LIMIT; node++) {
            if (projects[project].hasNode(node)) {
                sum = foldNode(sum, project, node);
            }
        }
        return sum;
    }

    private long foldNode(long before, int project, int node) {
        long sum = before;
        for (int what = 0; what < QUESTIONS_OF_NODE; what++) {
            sum = fold(sum, ofNode(project, node, what));
        }
        return fold(sum, substitute(project, node));
    }

    private void needPiece(int piece) {
        if (piece < 0 || piece >= pieceCount) {
            throw new IndexOutOfBoundsException("no such piece");
        }
    }

    private void needLicence(int licence) {
        if (licence < 0 || licence >= licenceCount) {
            throw new IndexOutOfBoundsException("no such licence");
        }
    }

    private void needProject(int project) {
        if (project < 0 || project >= projectCount) {
            throw new IndexOutOfBoundsException("no such project");
        }
    }

    private void needNode(int project, int node) {
        needProject(project);
        if (!projects[project].hasNode(node)) {
            throw new IndexOutOfBoundsException("no such node");
        }
    }

    private static void needNearness(int nearness) {
        if (nearness < 1 || nearness > FULL_SHARE) {
            throw new IllegalArgumentException("nearness is 1 to 100");
        }
    }

    private static boolean hasBit(int set, int k) {
        return (set >> k & 1) == 1;
    }

    /** Pieces never change, so their shares are taken once, when the later one is kept. */
    private void takeShares(int piece) {
        Row row = pieces[piece].row;
        for (int other = 0; other <= piece; other++) {
            int both = row.shareWith(pieces[other].row);
            shares[piece][other] = both;
            shares[other][piece] = both;
        }
    }

    /** What licences ask and forbid never changes, so their rivals are taken once, too. */
    private void takeRivals(int licence) {
        Licence added = licences[licence];
        for (int other = 0; other <= licence; other++) {
            if (added.isRivalOf(licences[other])) {
                added.rivals |= 1 << other;
                licences[other].rivals |= 1 << licence;
            }
        }
    }

    /** Ends each call that may change what comes from what or what binds; tells how many projects it recalls. */
    private int settle() {
        takeOrigins();
        bind(binding, nearLimit, NONE, NONE);
        int recalled = 0;
        for (int project = 0; project < projectCount; project++) {
            if (projects[project].isRecalledUnder(binding)) {
                projects[project].state = RECALLED;
                projects[project].recalls++;
                recalled++;
            }
        }
        return recalled;
    }

    private void takeOrigins() {
        for (int piece = 0; piece < pieceCount; piece++) {
            int from = 0;
            for (int earlier = 0; earlier < piece; earlier++) {
                if (shares[piece][earlier] >= nearLimit) {
                    from |= 1 << earlier | origins[earlier];
                }
            }
            origins[piece] = from;
        }
    }

    /**
     * Binds the pieces as if one of them (or NONE) had been told another licence. The earlier ones
     * come first, as the later ones take over what binds those.
     */
    private void bind(Binding into, int limit, int toldPiece, int toldLicence) {
        for (int piece = 0; piece < pieceCount; piece++) {
            int own = piece == toldPiece ? toldLicence : pieces[piece].own;
            int set = own == NONE ? 0 : 1 << own;
            for (int earlier = 0; earlier < piece; earlier++) {
                if (shares[piece][earlier] >= limit) {
                    set |= into.licencesOf(earlier);
                }
            }
            into.put(piece, set & ~pieces[piece].freed, licences);
        }
    }

    private int offspring(int piece) {
        int set = 0;
        for (int later = piece + 1; later < pieceCount; later++) {
            if (hasBit(origins[later], piece)) {
                set |= 1 << later;
            }
        }
        return set;
    }

    private int usesOf(int piece) {
        int uses = 0;
        for (int project = 0; project < projectCount; project++) {
            uses += projects[project].usesOf(piece);
        }
        return uses;
    }

    private int piecesBoundBy(int licence) {
        int bound = 0;
        for (int piece = 0; piece < pieceCount; piece++) {
            if (hasBit(binding.licencesOf(piece), licence)) {
                bound++;
            }
        }
        return bound;
    }

    private int projectsThatAre(int state) {
        int found = 0;
        for (int project = 0; project < projectCount; project++) {
            if (projects[project].state == state) {
                found++;
            }
        }
        return found;
    }

    private int nodesOfAll() {
        int found = 0;
        for (int project = 0; project < projectCount; project++) {
            found += Integer.bitCount(projects[project].nodes);
        }
        return found;
    }

    private int firstPieces() {
        int found = 0;
        for (int piece = 0; piece < pieceCount; piece++) {
            if (origins[piece] == 0) {
                found++;
            }
        }
        return found;
    }

    /** A row of tokens and its prints: the draft, or what a piece consists of. */
    private static final class Row {
        final int[] tokens = new int[ROW_LIMIT];
        final int[] prints = new int[PRINT_LIMIT];
        int length = 0;
        int printCount = 0;

        void append(int token) {
            if (length < ROW_LIMIT) {
                tokens[length] = token;
                length++;
                takePrints();
            }
        }

        void dropFirst(int atMost) {
            int dropped = Math.min(atMost, length);
            for (int k = dropped; k < length; k++) {
                tokens[k - dropped] = tokens[k];
            }
            length -= dropped;
            takePrints();
        }

        void become(Row other, int shift) {
            length = other.length;
            for (int k = 0; k < length; k++) {
                int token = other.tokens[k];
                tokens[k] = token < NAME_KINDS ? (token + shift) % NAME_KINDS : token;
            }
            takePrints();
        }

        int shareWith(Row other) {
            int fewer = Math.min(printCount, other.printCount);
            if (fewer == 0) {
                return 0;
            }
            int both = 0;
            for (int k = 0; k < printCount; k++) {
                if (other.hasPrint(prints[k])) {
                    both++;
                }
            }
            return both * FULL_SHARE / fewer;
        }

        private void takePrints() {
            printCount = 0;
            for (int start = 0; start + PRINT_LENGTH <= length; start++) {
                int print = printAt(start);
                if (!hasPrint(print)) {
                    prints[printCount] = print;
                    printCount++;
                }
            }
        }

        private boolean hasPrint(int print) {
            for (int k = 0; k < printCount; k++) {
                if (prints[k] == print) {
                    return true;
                }
            }
            return false;
        }

        private int printAt(int start) {
            int print = 0;
            for (int k = start; k < start + PRINT_LENGTH; k++) {
                int sign = tokens[k] < NAME_KINDS ? firstPlace(start, k) : tokens[k];
                print = print * TOKEN_KINDS + sign;
            }
            return print;
        }

        /**
         * Stands for a name by where in the print it is found first: two prints are the same with
         * these places if, and only if, they are with 0, 1, .. for one name after the other.
         */
        private int firstPlace(int start, int place) {
            for (int k = start; k < place; k++) {
                if (tokens[k] == tokens[place]) {
                    return k - start;
                }
            }
            return place - start;
        }
    }

    /** A kept row, what was told of it, and of which licences it was freed. */
    private static final class Piece {
        final Row row = new Row();
        int own = NONE;
        int freed = 0;
    }

    /** The terms of a licence, and the set of licences with which it clashes. */
    private static final class Licence {
        int asks = 0;
        int forbids = 0;
        boolean isStrong = false;
        int patience = 0;
        int rivals = 0;

        boolean isRivalOf(Licence other) {
            return (asks & other.forbids) != 0 || (other.asks & forbids) != 0;
        }
    }

    /** Which licences bind each piece, with what these ask and with which licences they clash. */
    private static final class Binding {
        private final int[] sets = new int[PIECE_LIMIT];
        private final int[] asked = new int[PIECE_LIMIT];
        private final int[] rivals = new int[PIECE_LIMIT];
        private final int[] farRivals = new int[PIECE_LIMIT];

        void put(int piece, int set, Licence[] licences) {
            int strong = 0;
            for (int licence = 0; licence < LICENCE_LIMIT; licence++) {
                strong |= licences[licence].isStrong ? 1 << licence : 0;
            }
            sets[piece] = set;
            asked[piece] = 0;
            rivals[piece] = 0;
            farRivals[piece] = 0;
            for (int licence = 0; licence < LICENCE_LIMIT; licence++) {
                if (hasBit(set, licence)) {
                    Licence one = licences[licence];
                    asked[piece] |= one.asks;
                    rivals[piece] |= one.rivals;
                    farRivals[piece] |= one.isStrong ? one.rivals : one.rivals & strong;
                }
            }
        }

        int licencesOf(int piece) {
            return piece == NONE ? 0 : sets[piece];
        }

        int dutiesOf(int piece) {
            return piece == NONE ? 0 : asked[piece];
        }

        /** Far from each other are two nodes of which none is above the other one. */
        boolean isClash(int one, int other, boolean isFar) {
            if (one == NONE || other == NONE) {
                return false;
            }
            int against = isFar ? farRivals[one] : rivals[one];
            return (against & sets[other]) != 0;
        }
    }

    /** A tree of nodes with pieces, and what became of it. */
    private static final class Project {
        final int[] parents = new int[NODE_LIMIT];
        final int[] above = new int[NODE_LIMIT];
        final int[] contents = new int[NODE_LIMIT];
        private final int[] clashes = new int[NODE_LIMIT];
        int nodes = 1 << ROOT;
        int notices = 0;
        int state = OPEN;
        int recalls = 0;

        Project() {
            parents[ROOT] = NONE;
            contents[ROOT] = NONE;
        }

        boolean hasNode(int node) {
            return node >= 0 && node < NODE_LIMIT && hasBit(nodes, node);
        }

        int firstFreeNode() {
            for (int node = 0; node < NODE_LIMIT; node++) {
                if (!hasBit(nodes, node)) {
                    return node;
                }
            }
            return NONE;
        }

        void grow(int node, int parent, int piece) {
            nodes |= 1 << node;
            parents[node] = parent;
            above[node] = above[parent] | 1 << parent;
            contents[node] = piece;
        }

        int prune(int node) {
            int gone = 0;
            for (int other = 0; other < NODE_LIMIT; other++) {
                if (hasBit(nodes, other) && (other == node || hasBit(above[other], node))) {
                    nodes &= ~(1 << other);
                    gone++;
                }
            }
            return gone;
        }

        int usesOf(int piece) {
            int uses = 0;
            for (int node = 0; node < NODE_LIMIT; node++) {
                if (hasBit(nodes, node) && contents[node] == piece) {
                    uses++;
                }
            }
            return uses;
        }

        /** The nodes with which a node clashes if it has this piece; itself, too, if it does. */
        int clashesOf(int node, int piece, Binding bound) {
            int set = 0;
            for (int other = 0; other < NODE_LIMIT; other++) {
                if (hasBit(nodes, other)) {
                    int content = other == node ? piece : contents[other];
                    if (bound.isClash(piece, content, isFar(node, other))) {
                        set |= 1 << other;
                    }
                }
            }
            return set;
        }

        private boolean isFar(int one, int other) {
            return one != other && ((above[one] >> other | above[other] >> one) & 1) == 0;
        }

        int countClashes(Binding bound) {
            int found = 0;
            for (int node = 0; node < NODE_LIMIT; node++) {
                if (hasBit(nodes, node)) {
                    // Only with itself and those before it, as each two count once.
                    int upToItself = (2 << node) - 1;
                    found += Integer.bitCount(clashesOf(node, contents[node], bound) & upToItself);
                }
            }
            return found;
        }

        int duties(Binding bound) {
            int asked = 0;
            for (int node = 0; node < NODE_LIMIT; node++) {
                if (hasBit(nodes, node)) {
                    asked |= bound.dutiesOf(contents[node]);
                }
            }
            return asked & ~notices;
        }

        boolean isInOrder(Binding bound) {
            return duties(bound) == 0 && countClashes(bound) == 0;
        }

        boolean isRecalledUnder(Binding bound) {
            return state == SHIPPED && !isInOrder(bound);
        }

        int fewestToEmpty(Binding bound) {
            int involved = takeClashes(bound);
            int best = involved;
            for (int set = 0; set < involved; set++) {
                boolean isInvolved = (set & ~involved) == 0;
                if (isInvolved && Integer.bitCount(set) < Integer.bitCount(best) && leavesNone(set)) {
                    best = set;
                }
            }
            return best;
        }

        private int takeClashes(Binding bound) {
            int involved = 0;
            for (int node = 0; node < NODE_LIMIT; node++) {
                clashes[node] = hasBit(nodes, node) ? clashesOf(node, contents[node], bound) : 0;
                involved |= clashes[node];
            }
            return involved;
        }

        private boolean leavesNone(int emptied) {
            for (int node = 0; node < NODE_LIMIT; node++) {
                if (!hasBit(emptied, node) && (clashes[node] & ~emptied) != 0) {
                    return false;
                }
            }
            return true;
        }
    }
}
