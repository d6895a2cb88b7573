/**
 * A Latticework that counts its calls, so that no test asks what the document leaves free: what comes
 * behind the 512th call. TERMS are written as texts: a digit for a sign, w, x, y and z for the
 * VARIABLES 0 to 3, in the order of their PLACES.
 */
final class Bench {

    static final int MOST_CALLS = 512;

    static final int ATOM = 0;
    static final int EQUALITY = 1;
    static final int NOT = 2;
    static final int AND = 3;
    static final int OR = 4;
    static final int IMPLIES = 5;

    private final Latticework l = new Latticework();
    private int calls;

    private Latticework called() {
        calls++;
        if (calls > MOST_CALLS) {
            throw new AssertionError("the test itself makes more than 512 calls on one object");
        }
        return l;
    }

    int callsLeft() {
        return MOST_CALLS - calls;
    }

    // ---- the face

    int variable(int variable) {
        return called().variable(variable);
    }

    int term(int sign, int a, int b) {
        return called().term(sign, a, b);
    }

    int terms() {
        return called().terms();
    }

    int ofTerm(int term, int what) {
        return called().ofTerm(term, what);
    }

    int at(int term, int place) {
        return called().at(term, place);
    }

    int compare(int one, int other) {
        return called().compare(one, other);
    }

    boolean fits(int one, int other) {
        return called().fits(one, other);
    }

    int meet(int one, int other) {
        return called().meet(one, other);
    }

    int equation(int one, int other) {
        return called().equation(one, other);
    }

    int complete(int steps) {
        return called().complete(steps);
    }

    int dropRule(int rule) {
        return called().dropRule(rule);
    }

    int many(int what) {
        return called().many(what);
    }

    int rule(int rule, boolean isLeft) {
        return called().rule(rule, isLeft);
    }

    int normal(int term) {
        return called().normal(term);
    }

    int steps(int term) {
        return called().steps(term);
    }

    boolean areEqual(int one, int other) {
        return called().areEqual(one, other);
    }

    int overlaps(int one, int other) {
        return called().overlaps(one, other);
    }

    double meanSize() {
        return called().meanSize();
    }

    int formula(int kind, int a, int b) {
        return called().formula(kind, a, b);
    }

    int formulas() {
        return called().formulas();
    }

    boolean isProved(int formula) {
        return called().isProved(formula);
    }

    int proof(int formula, int what) {
        return called().proof(formula, what);
    }

    int line(int formula, int reason, int x, int y) {
        return called().line(formula, reason, x, y);
    }

    int unline() {
        return called().unline();
    }

    boolean isRight(int line) {
        return called().isRight(line);
    }

    int given(int line) {
        return called().given(line);
    }

    int firstWrong() {
        return called().firstWrong();
    }

    int rulesAfter(int steps) {
        return called().rulesAfter(steps);
    }

    int sizeWithout(int rule, int term) {
        return called().sizeWithout(rule, term);
    }

    long digest() {
        return called().digest();
    }

    // ---- by texts

    int built(String text) {
        int[] at = {0};
        int number = part(text, at);
        if (at[0] != text.length()) {
            throw new AssertionError("no TERM: " + text);
        }
        return number;
    }

    private int part(String text, int[] at) {
        char c = text.charAt(at[0]++);
        if (c >= 'w') {
            return variable(c - 'w');
        }
        int sign = c - '0';
        int a = sign >= 2 ? part(text, at) : -7;
        int b = sign >= 4 ? part(text, at) : -7;
        return term(sign, a, b);
    }

    String text(int term) {
        StringBuilder text = new StringBuilder();
        int size = ofTerm(term, 0);
        for (int place = 0; place < size; place++) {
            int at = at(term, place);
            text.append((char) (at >= 10 ? 'w' + at - 10 : '0' + at));
        }
        return text.toString();
    }

    /** The same TERM with other VARIABLES: each becomes the one so many further on, round and round. */
    static String turned(String text, int by) {
        StringBuilder turned = new StringBuilder();
        for (char c : text.toCharArray()) {
            turned.append(c >= 'w' ? (char) ('w' + (c - 'w' + by) % 4) : c);
        }
        return turned.toString();
    }

    static String chain(char sign, int times, String rest) {
        return String.valueOf(sign).repeat(times) + rest;
    }

    int waits(String one, String other) {
        return equation(built(one), built(other));
    }

    /** Lets the EQUATION of a TERM with itself wait, as often as asked for. */
    Bench waitIdly(int times) {
        int zero = built("0");
        for (int i = 0; i < times; i++) {
            equation(zero, zero);
        }
        return this;
    }

    /** Each pair of texts becomes an EQUATION, and is completed by a STEP. */
    Bench ruled(String... sides) {
        for (int i = 0; i < sides.length; i += 2) {
            waits(sides[i], sides[i + 1]);
            complete(1);
        }
        return this;
    }

    String rules() {
        StringBuilder text = new StringBuilder();
        int rules = many(0);
        for (int rule = 0; rule < rules; rule++) {
            text.append(text(rule(rule, true))).append('>').append(text(rule(rule, false))).append(' ');
        }
        return text.toString().trim();
    }

    /** many() of 0 to 4. */
    String counts() {
        StringBuilder text = new StringBuilder();
        for (int what = 0; what <= 4; what++) {
            text.append(many(what)).append(' ');
        }
        return text.toString().trim();
    }

    int equality(String one, String other) {
        return formula(EQUALITY, built(one), built(other));
    }

    Bench atoms() {
        for (int atom = 0; atom < 6; atom++) {
            formula(ATOM, atom, 0);
        }
        return this;
    }

    // ---- full ones

    /** Builds TERMS of the signs 0, 2, 4 and 5 till there are as many; on a new object TERM n is 2..20 for n to 11. */
    Bench fillTerms(int most) {
        int[] chain = new int[12];
        int count = terms();
        for (int i = 0; i < 12 && count < most; i++) {
            chain[i] = i == 0 ? term(0, 0, 0) : term(2, chain[i - 1], 0);
            count = Math.max(count, chain[i] + 1);
        }
        for (int i = 0; i < 50 && count < most; i++) {
            count = Math.max(count, term(4 + i / 25, chain[i / 5 % 5], chain[i % 5]) + 1);
        }
        if (count != most) {
            throw new AssertionError(count + " TERMS, not " + most);
        }
        return this;
    }

    /** Builds the ATOMS, and ANDs and ORs of two of them, till there are as many FORMULAS. */
    Bench fillFormulas(int most) {
        int count = formulas();
        for (int i = 0; i < 6 && count < most; i++) {
            count = Math.max(count, formula(ATOM, i, 0) + 1);
        }
        for (int i = 0; i < 72 && count < most; i++) {
            count = Math.max(count, formula(AND + i / 36, i / 6 % 6, i % 6) + 1);
        }
        if (count != most) {
            throw new AssertionError(count + " FORMULAS, not " + most);
        }
        return this;
    }

    /** Adds GIVEN LINES of the FORMULA 0. */
    Bench fillLines(int most) {
        for (int i = 0; i < most; i++) {
            line(0, 0, 0, 0);
        }
        return this;
    }

    static final String[] EIGHT = {"400", "401", "410", "411", "500", "501", "510", "511"};

    /** RULES from those of EIGHT to 0, which have no OVERLAPS. */
    Bench fillRules(int most) {
        for (int i = 0; i < most; i++) {
            ruled(EIGHT[i], "0");
        }
        return this;
    }

    // ---- what can be seen

    /** All that can be asked without changing anything, as far as the calls go. */
    private String look() {
        StringBuilder seen = new StringBuilder(counts());
        int rules = many(0);
        int terms = terms();
        int formulas = formulas();
        seen.append(" terms ").append(terms).append(" formulas ").append(formulas);
        seen.append(" mean ").append(meanSize()).append(" wrong ").append(firstWrong());
        for (int steps = 1; steps <= 3; steps++) {
            seen.append(" after ").append(rulesAfter(steps));
        }
        for (int term = 0; term < terms; term++) {
            seen.append(' ').append(ofTerm(term, 0)).append('/').append(steps(term));
        }
        for (int term = Math.max(0, terms - 2); term < terms; term++) {
            seen.append(' ').append(text(term));
        }
        for (int formula = 0; formula < formulas; formula++) {
            seen.append(' ').append(proof(formula, 0)).append('/').append(proof(formula, 2));
        }
        for (int rule = 0; rule < rules; rule++) {
            seen.append(' ').append(overlaps(rule, 0)).append('/').append(overlaps(rules - 1, rule));
        }
        return seen.append(" digest ").append(digest()).toString();
    }

    /** What can be seen, and what comes of the EQUATIONS that wait: the same for two that are the same. */
    String story() {
        StringBuilder story = new StringBuilder(look());
        for (int i = 0; i < 8; i++) {
            story.append("\n").append(complete(3)).append(' ').append(many(4)).append(' ').append(digest());
        }
        return story.toString();
    }
}
