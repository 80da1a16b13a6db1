import java.util.ArrayList;
import java.util.HashSet;
import java.util.List;
import java.util.Map;
import java.util.Set;
import java.util.TreeMap;

/**
 * The document's words written down as plainly as can be: what ModelTest holds SnippetBank against.
 * But for the shares of pieces, nothing is kept that can be worked out again.
 */
public final class PlainBank {
    private static final int NONE = -1;

    private static final class Licence {
        int asks;
        int forbids;
        boolean strong;
        int patience;
    }

    private static final class Project {
        final Map<Integer, Integer> parent = new TreeMap<>();
        final Map<Integer, Integer> piece = new TreeMap<>();
        final Set<Integer> notices = new HashSet<>();
        int state = 0;
        int recalls = 0;
    }

    private List<Integer> draft = new ArrayList<>();
    private final List<List<Integer>> pieces = new ArrayList<>();
    private final List<List<Integer>> shares = new ArrayList<>();
    private final List<Integer> own = new ArrayList<>();
    private final List<Set<Integer>> freed = new ArrayList<>();
    private final List<Licence> licences = new ArrayList<>();
    private final List<Project> projects = new ArrayList<>();
    private int nearness = 60;
    private int granted = 0;

    public int token(int token) {
        argument(token >= 0 && token <= 29);
        state(draft.size() < 12);
        draft.add(token);
        return draft.size();
    }

    public int cut(int many) {
        argument(many >= 1 && many <= 12);
        for (int k = 0; k < many && !draft.isEmpty(); k++) {
            draft.remove(0);
        }
        return draft.size();
    }

    public int copy(int piece, int shift) {
        index(isPiece(piece));
        argument(shift >= 0 && shift <= 9);
        List<Integer> copied = new ArrayList<>();
        for (int token : pieces.get(piece)) {
            copied.add(token <= 9 ? (token + shift) % 10 : token);
        }
        draft = copied;
        return draft.size();
    }

    public int keep() {
        state(draft.size() >= 4 && pieces.size() < 16);
        pieces.add(new ArrayList<>(draft));
        own.add(NONE);
        freed.add(new HashSet<>());
        List<Integer> row = new ArrayList<>();
        for (List<Integer> other : pieces) row.add(shareOf(draft, other));
        shares.add(row);
        recall();
        return pieces.size() - 1;
    }

    public int draft(int k) {
        index(k >= 0 && k < draft.size());
        return draft.get(k);
    }

    public int scan(int piece) {
        index(isPiece(piece));
        return draft.size() < 4 ? 0 : shareOf(draft, pieces.get(piece));
    }

    public int share(int one, int other) {
        index(isPiece(one) && isPiece(other));
        return shares.get(Math.max(one, other)).get(Math.min(one, other));
    }

    public int ofPiece(int piece, int what) {
        index(isPiece(piece));
        argument(what >= 0 && what <= 7);
        if (what == 0) return pieces.get(piece).size();
        if (what == 1) return prints(pieces.get(piece)).size();
        if (what == 2) return own.get(piece);
        if (what == 3) return number(bound().get(piece));
        if (what == 4) return number(freed.get(piece));
        if (what == 5) return number(comesFrom(piece));
        if (what == 6) {
            Set<Integer> later = new HashSet<>();
            for (int k = 0; k < pieces.size(); k++) {
                if (comesFrom(k).contains(piece)) later.add(k);
            }
            return number(later);
        }
        int uses = 0;
        for (Project p : projects) {
            for (int content : p.piece.values()) {
                if (content == piece) uses++;
            }
        }
        return uses;
    }

    public int nearness(int to) {
        argument(to >= 1 && to <= 100);
        nearness = to;
        return recall();
    }

    public int licence(int asks, int forbids, boolean isStrong, int patience) {
        argument(asks >= 0 && asks <= 31 && forbids >= 0 && forbids <= 31 && patience >= 0 && patience <= 5);
        state(licences.size() < 6);
        Licence added = new Licence();
        added.asks = asks;
        added.forbids = forbids;
        added.strong = isStrong;
        added.patience = patience;
        licences.add(added);
        return licences.size() - 1;
    }

    public int ofLicence(int licence, int what) {
        index(isLicence(licence));
        argument(what >= 0 && what <= 5);
        Licence asked = licences.get(licence);
        if (what == 0) return asked.asks;
        if (what == 1) return asked.forbids;
        if (what == 2) return asked.strong ? 1 : 0;
        if (what == 3) return asked.patience;
        if (what == 4) {
            Set<Integer> against = new HashSet<>();
            for (int k = 0; k < licences.size(); k++) {
                if (clash(asked, licences.get(k))) against.add(k);
            }
            return number(against);
        }
        int many = 0;
        for (Set<Integer> set : bound()) {
            if (set.contains(licence)) many++;
        }
        return many;
    }

    public int tell(int piece, int licence) {
        index(isPiece(piece) && (licence == NONE || isLicence(licence)));
        own.set(piece, licence);
        return recall();
    }

    public boolean ask(int piece, int licence) {
        index(isPiece(piece) && isLicence(licence));
        state(bound().get(piece).contains(licence));
        if (licences.get(licence).patience == 0) return false;
        licences.get(licence).patience--;
        freed.get(piece).add(licence);
        granted++;
        recall();
        return true;
    }

    public int project() {
        state(projects.size() < 5);
        Project begun = new Project();
        begun.parent.put(0, NONE);
        begun.piece.put(0, NONE);
        projects.add(begun);
        return projects.size() - 1;
    }

    public int node(int project, int parent, int piece) {
        index(isNode(project, parent) && (piece == NONE || isPiece(piece)));
        Project p = projects.get(project);
        state(p.parent.size() < 10);
        int node = 0;
        while (p.parent.containsKey(node)) node++;
        p.parent.put(node, parent);
        p.piece.put(node, piece);
        recall();
        return node;
    }

    public int replace(int project, int node, int piece) {
        index(isNode(project, node) && (piece == NONE || isPiece(piece)));
        int before = projects.get(project).piece.put(node, piece);
        recall();
        return before;
    }

    public int remove(int project, int node) {
        index(isNode(project, node));
        state(node != 0);
        Project p = projects.get(project);
        List<Integer> gone = new ArrayList<>();
        for (int other : p.parent.keySet()) {
            if (other == node || above(p, other).contains(node)) gone.add(other);
        }
        for (int other : gone) {
            p.parent.remove(other);
            p.piece.remove(other);
        }
        recall();
        return gone.size();
    }

    public int ofNode(int project, int node, int what) {
        index(isNode(project, node));
        argument(what >= 0 && what <= 4);
        Project p = projects.get(project);
        if (what == 0) return p.parent.get(node);
        if (what == 1) return p.piece.get(node);
        if (what == 2) return p.piece.get(node) == NONE ? 0 : number(bound().get(p.piece.get(node)));
        if (what == 3) return number(clashesOf(p, p.piece, node, bound()));
        return above(p, node).size();
    }

    public boolean notice(int project, int duty, boolean isUp) {
        index(isProject(project) && duty >= 0 && duty <= 4);
        Set<Integer> notices = projects.get(project).notices;
        boolean was = notices.contains(duty);
        if (isUp) notices.add(duty);
        else notices.remove(duty);
        recall();
        return was;
    }

    public int ship(int project) {
        index(isProject(project));
        Project p = projects.get(project);
        state(p.state != 1 && clashes(p, p.piece, bound()) == 0 && owes(p, bound()).isEmpty());
        p.state = 1;
        return p.recalls;
    }

    public int ofProject(int project, int what) {
        index(isProject(project));
        argument(what >= 0 && what <= 6);
        Project p = projects.get(project);
        if (what == 0) return p.state;
        if (what == 1) return p.parent.size();
        if (what == 2) return clashes(p, p.piece, bound());
        if (what == 3) return number(owes(p, bound()));
        if (what == 4) return number(p.notices);
        if (what == 5) return p.recalls;
        return number(p.parent.keySet());
    }

    public int many(int what) {
        argument(what >= 0 && what <= 10);
        if (what == 0) return draft.size();
        if (what == 1) return pieces.size();
        if (what == 2) return licences.size();
        if (what == 3) return projects.size();
        int many = 0;
        for (Project p : projects) {
            if (what >= 4 && what <= 6 && p.state == what - 4) many++;
            if (what == 7) many += p.parent.size();
        }
        for (int k = 0; k < pieces.size(); k++) {
            if (what == 8 && comesFrom(k).isEmpty()) many++;
        }
        return what == 9 ? granted : what == 10 ? nearness : many;
    }

    public double meanShare() {
        double sum = 0;
        int many = 0;
        for (int one = 0; one < pieces.size(); one++) {
            for (int other = one + 1; other < pieces.size(); other++) {
                sum += share(one, other);
                many++;
            }
        }
        return many == 0 ? 0 : sum / many;
    }

    public int recalledBy(int piece, int licence) {
        index(isPiece(piece) && isLicence(licence));
        List<Integer> told = new ArrayList<>(own);
        told.set(piece, licence);
        Set<Integer> recalled = new HashSet<>();
        for (int k = 0; k < projects.size(); k++) {
            if (isToRecall(projects.get(k), boundBy(told, nearness))) recalled.add(k);
        }
        return number(recalled);
    }

    public int clashesWith(int project, int node, int piece) {
        index(isNode(project, node) && isPiece(piece));
        Project p = projects.get(project);
        Map<Integer, Integer> other = new TreeMap<>(p.piece);
        other.put(node, piece);
        return clashes(p, other, bound());
    }

    public int remedy(int project) {
        index(isProject(project));
        Project p = projects.get(project);
        List<Set<Integer>> bound = bound();
        int best = -1;
        for (int set = 0; set < 1024; set++) {
            if (best >= 0 && Integer.bitCount(set) >= Integer.bitCount(best)) continue;
            Map<Integer, Integer> left = new TreeMap<>(p.piece);
            boolean there = true;
            for (int node = 0; node < 10; node++) {
                if ((set >> node) % 2 == 1) {
                    there = there && left.containsKey(node);
                    left.put(node, NONE);
                }
            }
            if (there && clashes(p, left, bound) == 0) best = set;
        }
        return best;
    }

    public int substitute(int project, int node) {
        index(isNode(project, node));
        Project p = projects.get(project);
        int present = p.piece.get(node);
        List<Set<Integer>> bound = bound();
        int best = NONE;
        for (int k = 0; k < pieces.size() && present != NONE; k++) {
            Map<Integer, Integer> other = new TreeMap<>(p.piece);
            other.put(node, k);
            boolean fits = k != present && clashesOf(p, other, node, bound).isEmpty();
            if (fits && (best == NONE || share(present, k) > share(present, best))) best = k;
        }
        return best;
    }

    public int boundWith(int supposed) {
        argument(supposed >= 1 && supposed <= 100);
        List<Set<Integer>> now = bound();
        List<Set<Integer>> then = boundBy(own, supposed);
        int many = 0;
        for (int k = 0; k < pieces.size(); k++) {
            if (!now.get(k).equals(then.get(k))) many++;
        }
        return many;
    }

    public long digest() {
        List<Integer> row = new ArrayList<>();
        for (int what = 0; what <= 10; what++) row.add(many(what));
        for (int k = 0; k < pieces.size(); k++) {
            for (int what = 0; what <= 7; what++) row.add(ofPiece(k, what));
            row.add(scan(k));
            if (k < pieces.size() - 1) row.add(share(k, k + 1));
        }
        for (int k = 0; k < licences.size(); k++) {
            for (int what = 0; what <= 5; what++) row.add(ofLicence(k, what));
        }
        for (int k = 0; k < projects.size(); k++) {
            for (int what = 0; what <= 6; what++) row.add(ofProject(k, what));
            row.add(remedy(k));
            for (int node : projects.get(k).parent.keySet()) {
                for (int what = 0; what <= 4; what++) row.add(ofNode(k, node, what));
                row.add(substitute(k, node));
            }
        }
        row.add(boundWith(30));
        row.add(boundWith(90));
        long d = 58109;
        for (int v : row) d = d * 31 + v;
        return d;
    }

    private static Set<String> prints(List<Integer> row) {
        Set<String> prints = new HashSet<>();
        for (int start = 0; start + 4 <= row.size(); start++) {
            List<Integer> names = new ArrayList<>();
            StringBuilder print = new StringBuilder();
            for (int token : row.subList(start, start + 4)) {
                if (token <= 9 && !names.contains(token)) names.add(token);
                print.append(token <= 9 ? "name " + names.indexOf(token) : "word " + token).append(';');
            }
            prints.add(print.toString());
        }
        return prints;
    }

    private static int shareOf(List<Integer> one, List<Integer> other) {
        Set<String> both = prints(one);
        both.retainAll(prints(other));
        return both.size() * 100 / Math.min(prints(one).size(), prints(other).size());
    }

    private Set<Integer> comesFrom(int piece) {
        List<Set<Integer>> from = new ArrayList<>();
        for (int k = 0; k <= piece; k++) {
            Set<Integer> set = new HashSet<>();
            for (int earlier = 0; earlier < k; earlier++) {
                if (share(k, earlier) >= nearness) {
                    set.add(earlier);
                    set.addAll(from.get(earlier));
                }
            }
            from.add(set);
        }
        return from.get(piece);
    }

    private List<Set<Integer>> bound() {
        return boundBy(own, nearness);
    }

    private List<Set<Integer>> boundBy(List<Integer> told, int near) {
        List<Set<Integer>> bound = new ArrayList<>();
        for (int k = 0; k < pieces.size(); k++) {
            Set<Integer> set = new HashSet<>();
            if (told.get(k) != NONE) set.add(told.get(k));
            for (int earlier = 0; earlier < k; earlier++) {
                if (share(k, earlier) >= near) set.addAll(bound.get(earlier));
            }
            set.removeAll(freed.get(k));
            bound.add(set);
        }
        return bound;
    }

    private static boolean clash(Licence a, Licence b) {
        return (a.asks & b.forbids) != 0 || (b.asks & a.forbids) != 0;
    }

    private Set<Integer> above(Project p, int node) {
        Set<Integer> above = new HashSet<>();
        for (int up = p.parent.get(node); up != NONE; up = p.parent.get(up)) above.add(up);
        return above;
    }

    private boolean clash(Project p, Map<Integer, Integer> contents, int one, int other, List<Set<Integer>> bound) {
        if (contents.get(one) == NONE || contents.get(other) == NONE) return false;
        boolean inLine = above(p, one).contains(other) || above(p, other).contains(one);
        for (int a : bound.get(contents.get(one))) {
            for (int b : bound.get(contents.get(other))) {
                boolean strong = licences.get(a).strong || licences.get(b).strong;
                if (clash(licences.get(a), licences.get(b)) && (one == other || inLine || strong)) return true;
            }
        }
        return false;
    }

    private Set<Integer> clashesOf(Project p, Map<Integer, Integer> contents, int node, List<Set<Integer>> bound) {
        Set<Integer> set = new HashSet<>();
        for (int other : contents.keySet()) {
            if (clash(p, contents, node, other, bound)) set.add(other);
        }
        return set;
    }

    private int clashes(Project p, Map<Integer, Integer> contents, List<Set<Integer>> bound) {
        int many = 0;
        for (int one : contents.keySet()) {
            for (int other : contents.keySet()) {
                if (one <= other && clash(p, contents, one, other, bound)) many++;
            }
        }
        return many;
    }

    private Set<Integer> owes(Project p, List<Set<Integer>> bound) {
        Set<Integer> owed = new HashSet<>();
        for (int content : p.piece.values()) {
            if (content == NONE) continue;
            for (int licence : bound.get(content)) {
                for (int duty = 0; duty <= 4; duty++) {
                    if ((licences.get(licence).asks >> duty) % 2 == 1) owed.add(duty);
                }
            }
        }
        owed.removeAll(p.notices);
        return owed;
    }

    private boolean isToRecall(Project p, List<Set<Integer>> bound) {
        return p.state == 1 && (clashes(p, p.piece, bound) > 0 || !owes(p, bound).isEmpty());
    }

    private int recall() {
        int many = 0;
        for (Project p : projects) {
            if (isToRecall(p, bound())) {
                p.state = 2;
                p.recalls++;
                many++;
            }
        }
        return many;
    }

    private boolean isPiece(int piece) {
        return piece >= 0 && piece < pieces.size();
    }

    private boolean isLicence(int licence) {
        return licence >= 0 && licence < licences.size();
    }

    private boolean isProject(int project) {
        return project >= 0 && project < projects.size();
    }

    private boolean isNode(int project, int node) {
        return isProject(project) && projects.get(project).parent.containsKey(node);
    }

    private static int number(Set<Integer> set) {
        int sum = 0;
        for (int k : set) sum += 1 << k;
        return sum;
    }

    private static void argument(boolean isRight) {
        if (!isRight) throw new IllegalArgumentException();
    }

    private static void index(boolean isRight) {
        if (!isRight) throw new IndexOutOfBoundsException();
    }

    private static void state(boolean isRight) {
        if (!isRight) throw new IllegalStateException();
    }
}
