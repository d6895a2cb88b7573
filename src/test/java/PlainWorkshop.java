import java.util.ArrayList;
import java.util.HashMap;
import java.util.LinkedHashMap;
import java.util.List;
import java.util.Map;
import java.util.TreeMap;
import java.util.TreeSet;

/**
 * The document done once more, as near to its words as can be, with trees and lists and no thought
 * of cost: what the program is compared with. It counts in seen what happened on the way, so that
 * a test can tell whether it reached the rare things.
 */
final class PlainWorkshop {

    /** A TERM: head is a sign, or 10 + a VARIABLE. */
    record Tree(int head, List<Tree> parts) {

        boolean isVariable() {
            return head >= 10;
        }

        List<Tree> places() {
            List<Tree> all = new ArrayList<>();
            all.add(this);
            for (Tree part : parts) {
                all.addAll(part.places());
            }
            return all;
        }

        int size() {
            return places().size();
        }

        int times(int variable) {
            int times = 0;
            for (Tree place : places()) {
                times += place.head == variable ? 1 : 0;
            }
            return times;
        }

        TreeSet<Integer> variables() {
            TreeSet<Integer> all = new TreeSet<>();
            for (Tree place : places()) {
                if (place.isVariable()) {
                    all.add(place.head);
                }
            }
            return all;
        }

        Tree with(Map<Integer, Tree> put) {
            if (isVariable()) {
                return put.getOrDefault(head, this);
            }
            List<Tree> changed = new ArrayList<>();
            for (Tree part : parts) {
                changed.add(part.with(put));
            }
            return new Tree(head, changed);
        }

        Tree replaced(int place, Tree by) {
            if (place == 0) {
                return by;
            }
            List<Tree> changed = new ArrayList<>();
            int at = 1;
            for (Tree part : parts) {
                boolean isIn = place >= at && place < at + part.size();
                changed.add(isIn ? part.replaced(place - at, by) : part);
                at += part.size();
            }
            return new Tree(head, changed);
        }
    }

    record Pair(Tree one, Tree other) { }

    record Formula(int kind, int a, int b) { }

    record Line(int formula, int reason, int x, int y) { }

    static final Map<String, Integer> seen = new TreeMap<>();

    final List<Tree> terms = new ArrayList<>();
    List<Pair> rules = new ArrayList<>();
    List<Pair> waiting = new ArrayList<>();
    int aside;
    int done;
    boolean stopped;
    final List<Formula> formulas = new ArrayList<>();
    final List<Line> lines = new ArrayList<>();
    private int times;
    private int apart;
    private int closed;
    private int open;

    static void saw(String what) {
        seen.merge(what, 1, Integer::sum);
    }

    private static void need(int index, List<?> list) {
        if (index < 0 || index >= list.size()) {
            throw new IndexOutOfBoundsException();
        }
    }

    private static void needArgument(boolean holds) {
        if (!holds) {
            throw new IllegalArgumentException();
        }
    }

    private static void needState(boolean holds) {
        if (!holds) {
            throw new IllegalStateException();
        }
    }

    private int number(Tree term) {
        if (!terms.contains(term)) {
            needState(terms.size() < 60);
            terms.add(term);
        }
        return terms.indexOf(term);
    }

    // ---- terms

    int variable(int variable) {
        needArgument(variable >= 0 && variable <= 3);
        return number(new Tree(10 + variable, List.of()));
    }

    int term(int sign, int a, int b) {
        List<Tree> parts = new ArrayList<>();
        if (sign >= 2 && sign <= 5) {
            need(a, terms);
            parts.add(terms.get(a));
        }
        if (sign == 4 || sign == 5) {
            need(b, terms);
            parts.add(terms.get(b));
        }
        needArgument(sign >= 0 && sign <= 5);
        Tree term = new Tree(sign, parts);
        needArgument(term.size() <= 12);
        return number(term);
    }

    int ofTerm(int term, int what) {
        need(term, terms);
        needArgument(what == 0 || what == 1);
        return what == 0 ? terms.get(term).size() : terms.get(term).variables().size();
    }

    int at(int term, int place) {
        need(term, terms);
        need(place, terms.get(term).places());
        return terms.get(term).places().get(place).head;
    }

    static boolean greater(Tree s, Tree t) {
        for (int variable = 10; variable < 14; variable++) {
            if (t.times(variable) > s.times(variable)) {
                return false;
            }
        }
        if (s.size() != t.size()) {
            return s.size() > t.size();
        }
        if (s.isVariable() || t.isVariable()) {
            return false;
        }
        if (s.head != t.head) {
            return s.head > t.head;
        }
        for (int i = 0; i < s.parts.size(); i++) {
            if (!s.parts.get(i).equals(t.parts.get(i))) {
                return greater(s.parts.get(i), t.parts.get(i));
            }
        }
        return false;
    }

    int compare(int one, int other) {
        need(one, terms);
        need(other, terms);
        if (greater(terms.get(one), terms.get(other))) {
            return 1;
        }
        return greater(terms.get(other), terms.get(one)) ? -1 : 0;
    }

    static boolean match(Tree l, Tree t, Map<Integer, Tree> put) {
        if (l.isVariable()) {
            put.putIfAbsent(l.head, t);
            return put.get(l.head).equals(t);
        }
        if (l.head != t.head) {
            return false;
        }
        for (int i = 0; i < l.parts.size(); i++) {
            if (!match(l.parts.get(i), t.parts.get(i), put)) {
                return false;
            }
        }
        return true;
    }

    boolean fits(int one, int other) {
        need(one, terms);
        need(other, terms);
        return match(terms.get(one), terms.get(other), new HashMap<>());
    }

    /** The VARIABLES of the other side are 20 to 23. */
    private static Tree apart(Tree term) {
        Map<Integer, Tree> put = new HashMap<>();
        for (int variable = 10; variable < 14; variable++) {
            put.put(variable, new Tree(variable + 10, List.of()));
        }
        return term.with(put);
    }

    /** Robinson's way: what is put is put everywhere at once; null if they do not MEET. */
    private static Map<Integer, Tree> unify(Tree one, Tree other, Map<Integer, Tree> put) {
        Tree a = one.with(put);
        Tree b = other.with(put);
        if (a.equals(b)) {
            return put;
        }
        if (!a.isVariable() && b.isVariable()) {
            return unify(b, a, put);
        }
        if (a.isVariable()) {
            if (b.times(a.head) > 0) {
                saw("a VARIABLE in what would be put for it");
                return null;
            }
            Map<Integer, Tree> more = new LinkedHashMap<>();
            for (Map.Entry<Integer, Tree> entry : put.entrySet()) {
                more.put(entry.getKey(), entry.getValue().with(Map.of(a.head, b)));
            }
            more.put(a.head, b);
            return more;
        }
        if (a.head != b.head) {
            return null;
        }
        Map<Integer, Tree> now = put;
        for (int i = 0; i < a.parts.size() && now != null; i++) {
            now = unify(a.parts.get(i), b.parts.get(i), now);
        }
        return now;
    }

    int meet(int one, int other) {
        need(one, terms);
        need(other, terms);
        Map<Integer, Tree> put = unify(terms.get(one), apart(terms.get(other)), new HashMap<>());
        if (put == null) {
            return -1;
        }
        int size = terms.get(one).with(put).size();
        if (size > 12) {
            saw("they MEET above 12");
        }
        return size;
    }

    // ---- equations and rules

    private Tree rewriteOnce(Tree term, List<Pair> by) {
        List<Tree> places = term.places();
        for (int place = 0; place < places.size(); place++) {
            for (Pair rule : by) {
                Map<Integer, Tree> put = new HashMap<>();
                if (match(rule.one, places.get(place), put)) {
                    return term.replaced(place, rule.other.with(put));
                }
            }
        }
        return null;
    }

    private Tree normalTerm(Tree term, List<Pair> by) {
        Tree now = term;
        times = 0;
        while (times < 30) {
            Tree next = rewriteOnce(now, by);
            if (next == null) {
                return now;
            }
            now = next;
            times++;
        }
        saw("30 times REWRITTEN");
        return now;
    }

    int equation(int one, int other) {
        need(one, terms);
        need(other, terms);
        needState(waiting.size() < 20);
        if (stopped) {
            saw("completing begins anew");
        }
        waiting.add(new Pair(terms.get(one), terms.get(other)));
        stopped = false;
        return waiting.size();
    }

    /** Each OVERLAP of a into b. */
    private static List<Pair> overlapsInto(Pair a, Pair b, boolean isSame) {
        List<Pair> all = new ArrayList<>();
        Pair other = new Pair(apart(b.one), apart(b.other));
        List<Tree> places = other.one.places();
        for (int place = isSame ? 1 : 0; place < places.size(); place++) {
            if (places.get(place).isVariable()) {
                continue;
            }
            Map<Integer, Tree> put = unify(a.one, places.get(place), new HashMap<>());
            if (put == null) {
                continue;
            }
            Tree first = other.one.replaced(place, a.other).with(put);
            Tree second = other.other.with(put);
            Map<Integer, Tree> anew = new HashMap<>();
            for (Tree side : List.of(first, second)) {
                for (Tree at : side.places()) {
                    if (at.isVariable() && !anew.containsKey(at.head)) {
                        anew.put(at.head, new Tree(10 + anew.size(), List.of()));
                    }
                }
            }
            if (first.equals(second)) {
                saw("an OVERLAP with the same sides");
            } else if (first.size() > 12 || second.size() > 12) {
                saw("an OVERLAP above 12");
            } else if (anew.size() > 4) {
                saw("an OVERLAP with more than 4 VARIABLES");
            } else {
                all.add(new Pair(first.with(anew), second.with(anew)));
                saw("an OVERLAP");
            }
        }
        return all;
    }

    /** Says no as soon as there is too much. */
    private boolean step() {
        Pair first = waiting.remove(0);
        Tree one = normalTerm(first.one, rules);
        Tree other = normalTerm(first.other, rules);
        if (one.equals(other)) {
            saw("an EQUATION whose sides are the same");
            return true;
        }
        if (!greater(one, other) && !greater(other, one)) {
            saw("an EQUATION that is put ASIDE");
            aside++;
            return true;
        }
        Pair last = greater(one, other) ? new Pair(one, other) : new Pair(other, one);
        if (rules.size() == 8) {
            saw("more than 8 RULES");
            return false;
        }
        for (Pair rule : new ArrayList<>(rules)) {
            if (rewriteOnce(rule.one, List.of(last)) != null) {
                saw("a RULE that is taken away");
                rules.remove(rule);
                waiting.add(rule);
            }
        }
        rules.add(last);
        for (Pair rule : rules) {
            waiting.addAll(overlapsInto(last, rule, rule == last));
            if (rule != last) {
                waiting.addAll(overlapsInto(rule, last, false));
            }
        }
        if (waiting.size() > 20) {
            saw("more than 20 EQUATIONS");
            return false;
        }
        saw("a new RULE");
        return true;
    }

    private void doSteps(int steps) {
        for (int i = 0; i < steps && !waiting.isEmpty() && !stopped; i++) {
            List<Pair> rulesBefore = new ArrayList<>(rules);
            List<Pair> waitingBefore = new ArrayList<>(waiting);
            if (step()) {
                done++;
            } else {
                rules = rulesBefore;
                waiting = waitingBefore;
                stopped = true;
            }
        }
    }

    int complete(int steps) {
        needArgument(steps >= 1 && steps <= 3);
        doSteps(steps);
        return rules.size();
    }

    int dropRule(int rule) {
        need(rule, rules);
        rules.remove(rule);
        return rules.size();
    }

    int many(int what) {
        needArgument(what >= 0 && what <= 4);
        return new int[] {rules.size(), waiting.size(), aside, done, stopped ? 1 : 0}[what];
    }

    int rule(int rule, boolean isLeft) {
        need(rule, rules);
        return number(isLeft ? rules.get(rule).one : rules.get(rule).other);
    }

    private Tree normalOf(int term) {
        return normalTerm(terms.get(term), rules);
    }

    int normal(int term) {
        need(term, terms);
        return number(normalOf(term));
    }

    int steps(int term) {
        need(term, terms);
        normalOf(term);
        return times;
    }

    boolean areEqual(int one, int other) {
        need(one, terms);
        need(other, terms);
        return normalOf(one).equals(normalOf(other));
    }

    int overlaps(int one, int other) {
        need(one, rules);
        need(other, rules);
        return overlapsInto(rules.get(one), rules.get(other), one == other).size();
    }

    double meanSize() {
        double sum = 0;
        for (Pair rule : rules) {
            sum += rule.one.size();
        }
        return rules.isEmpty() ? 0 : sum / rules.size();
    }

    // ---- formulas

    private int weight(Formula formula) {
        if (formula.kind < 2) {
            return 0;
        }
        int weight = 1 + weight(formulas.get(formula.a));
        return formula.kind == 2 ? weight : weight + weight(formulas.get(formula.b));
    }

    int formula(int kind, int a, int b) {
        if (kind == 1) {
            need(a, terms);
            need(b, terms);
        }
        if (kind >= 2 && kind <= 5) {
            need(a, formulas);
        }
        if (kind >= 3 && kind <= 5) {
            need(b, formulas);
        }
        needArgument(kind >= 0 && kind <= 5);
        needArgument(kind != 0 || a >= 0 && a <= 5);
        Formula formula = new Formula(kind, a, kind == 0 || kind == 2 ? 0 : b);
        needArgument(weight(formula) <= 6);
        if (!formulas.contains(formula)) {
            needState(formulas.size() < 40);
            formulas.add(formula);
        }
        return formulas.indexOf(formula);
    }

    private boolean isTrue(int formula) {
        Formula f = formulas.get(formula);
        return f.kind == 1 && normalOf(f.a).equals(normalOf(f.b));
    }

    private boolean sameAtom(int one, int other) {
        Formula f = formulas.get(one);
        Formula g = formulas.get(other);
        if (f.kind > 1 || g.kind != f.kind) {
            return false;
        }
        if (f.kind == 0) {
            return f.a == g.a;
        }
        Tree a = normalOf(f.a);
        Tree b = normalOf(f.b);
        Tree c = normalOf(g.a);
        Tree d = normalOf(g.b);
        return a.equals(c) && b.equals(d) || a.equals(d) && b.equals(c);
    }

    private boolean isClosed(List<Integer> left, List<Integer> right) {
        for (int r : right) {
            if (isTrue(r)) {
                return true;
            }
            for (int l : left) {
                if (sameAtom(l, r)) {
                    return true;
                }
            }
        }
        return false;
    }

    private static List<Integer> with(List<Integer> row, int... added) {
        List<Integer> more = new ArrayList<>(row);
        for (int formula : added) {
            more.add(formula);
        }
        return more;
    }

    private int firstApart(List<Integer> row) {
        for (int i = 0; i < row.size(); i++) {
            if (formulas.get(row.get(i)).kind > 1) {
                return i;
            }
        }
        return -1;
    }

    private boolean sequent(List<Integer> left, List<Integer> right) {
        if (isClosed(left, right)) {
            closed++;
            return true;
        }
        int place = firstApart(left);
        boolean isLeft = place >= 0;
        if (!isLeft) {
            place = firstApart(right);
        }
        if (place < 0) {
            open = 0;
            for (int l : left) {
                Formula f = formulas.get(l);
                open |= f.kind == 0 ? 1 << f.a : 0;
            }
            return false;
        }
        apart++;
        List<Integer> onLeft = new ArrayList<>(left);
        List<Integer> onRight = new ArrayList<>(right);
        Formula f = formulas.get((isLeft ? onLeft : onRight).remove(place));
        saw("taken apart on the " + (isLeft ? "left" : "right") + ", kind " + f.kind);
        if (isLeft) {
            return switch (f.kind) {
                case 2 -> sequent(onLeft, with(onRight, f.a));
                case 3 -> sequent(with(onLeft, f.a, f.b), onRight);
                case 4 -> sequent(with(onLeft, f.a), onRight) && sequent(with(onLeft, f.b), onRight);
                default -> sequent(onLeft, with(onRight, f.a)) && sequent(with(onLeft, f.b), onRight);
            };
        }
        return switch (f.kind) {
            case 2 -> sequent(with(onLeft, f.a), onRight);
            case 3 -> sequent(onLeft, with(onRight, f.a)) && sequent(onLeft, with(onRight, f.b));
            case 4 -> sequent(onLeft, with(onRight, f.a, f.b));
            default -> sequent(with(onLeft, f.a), with(onRight, f.b));
        };
    }

    private boolean prove(List<Integer> left, int right) {
        apart = 0;
        closed = 0;
        open = -1;
        boolean isProved = sequent(left, List.of(right));
        saw(isProved ? "a SEQUENT proved" : "a SEQUENT refuted");
        return isProved;
    }

    boolean isProved(int formula) {
        need(formula, formulas);
        return prove(List.of(), formula);
    }

    int proof(int formula, int what) {
        need(formula, formulas);
        needArgument(what >= 0 && what <= 2);
        prove(List.of(), formula);
        return new int[] {apart, closed, open}[what];
    }

    // ---- proofs

    private static List<Integer> named(Line line) {
        return switch (line.reason) {
            case 0, 8 -> List.of();
            case 1, 2, 7 -> List.of(line.x, line.y);
            default -> List.of(line.x);
        };
    }

    int line(int formula, int reason, int x, int y) {
        need(formula, formulas);
        Line line = new Line(formula, reason, x, y);
        if (reason >= 0 && reason <= 9) {
            for (int other : named(line)) {
                need(other, lines);
            }
        }
        needArgument(reason >= 0 && reason <= 9);
        needState(lines.size() < 24);
        lines.add(line);
        return lines.size() - 1;
    }

    int unline() {
        needState(!lines.isEmpty());
        lines.remove(lines.size() - 1);
        return lines.size();
    }

    private boolean holds(Line line) {
        int here = line.formula;
        int x = named(line).isEmpty() ? -1 : lines.get(line.x).formula;
        int y = named(line).size() < 2 ? -1 : lines.get(line.y).formula;
        return switch (line.reason) {
            case 0 -> true;
            case 1 -> formulas.get(y).equals(new Formula(5, x, here));
            case 2 -> formulas.get(here).equals(new Formula(3, x, y));
            case 3 -> formulas.get(x).kind == 3 && formulas.get(x).a == here;
            case 4 -> formulas.get(x).kind == 3 && formulas.get(x).b == here;
            case 5 -> formulas.get(here).kind == 4 && formulas.get(here).a == x;
            case 6 -> formulas.get(here).kind == 4 && formulas.get(here).b == x;
            case 7 -> formulas.get(y).equals(new Formula(2, x, 0));
            case 8 -> isTrue(here);
            default -> prove(List.of(x), here);
        };
    }

    boolean isRight(int line) {
        need(line, lines);
        boolean isRight = holds(lines.get(line));
        for (int other : named(lines.get(line))) {
            isRight = isRight && isRight(other);
        }
        saw("a LINE by " + lines.get(line).reason + (isRight ? " that is RIGHT" : " that is not RIGHT"));
        return isRight;
    }

    private TreeSet<Integer> givens(int line) {
        TreeSet<Integer> all = new TreeSet<>();
        if (lines.get(line).reason == 0) {
            all.add(line);
        }
        for (int other : named(lines.get(line))) {
            all.addAll(givens(other));
        }
        return all;
    }

    int given(int line) {
        need(line, lines);
        return givens(line).size();
    }

    int firstWrong() {
        for (int line = 0; line < lines.size(); line++) {
            if (!isRight(line)) {
                return line;
            }
        }
        return -1;
    }

    // ---- what would be

    int rulesAfter(int steps) {
        needArgument(steps >= 1 && steps <= 3);
        PlainWorkshop trial = new PlainWorkshop();
        trial.rules = new ArrayList<>(rules);
        trial.waiting = new ArrayList<>(waiting);
        trial.stopped = stopped;
        trial.doSteps(steps);
        return trial.rules.size();
    }

    int sizeWithout(int rule, int term) {
        need(rule, rules);
        need(term, terms);
        List<Pair> left = new ArrayList<>(rules);
        left.remove(rule);
        return normalTerm(terms.get(term), left).size();
    }

    long digest() {
        List<Integer> values = new ArrayList<>();
        values.add(terms.size());
        for (int what = 0; what < 5; what++) {
            values.add(many(what));
        }
        for (Pair rule : rules) {
            for (Tree side : List.of(rule.one, rule.other)) {
                for (Tree place : side.places()) {
                    values.add(place.head);
                }
            }
        }
        for (int term = 0; term < Math.min(20, terms.size()); term++) {
            values.add(terms.get(term).size());
            values.add(steps(term));
            values.add(normalOf(term).size());
        }
        for (int formula = 0; formula < Math.min(12, formulas.size()); formula++) {
            values.add(isProved(formula) ? 1 : 0);
            for (int what = 0; what < 3; what++) {
                values.add(proof(formula, what));
            }
        }
        for (int line = 0; line < lines.size(); line++) {
            values.add(isRight(line) ? 1 : 0);
            values.add(given(line));
        }
        long d = 58092;
        for (int value : values) {
            d = d * 31 + value;
        }
        return d;
    }
}
