/**
 * For each promise of the document ordinary inputs, the edges that it names, and wrong inputs; what
 * is due was worked out by hand from the document's words. TERMS are written as texts here: a digit
 * for a sign, w, x, y and z for the VARIABLES 0 to 3, in the order of their PLACES.
 */
public final class PromisesTest {

    private static final Class<? extends RuntimeException> INDEX = IndexOutOfBoundsException.class;
    private static final Class<? extends RuntimeException> ARGUMENT = IllegalArgumentException.class;
    private static final Class<? extends RuntimeException> STATE = IllegalStateException.class;
    private static final int LOW = Integer.MIN_VALUE;
    private static final int HIGH = Integer.MAX_VALUE;

    private static int wrong;
    private static int promise;

    private interface Call {
        Object answer();
    }

    private static void due(Object want, Call call) {
        Object got;
        try {
            got = call.answer();
        } catch (RuntimeException e) {
            got = e.getClass();
        }
        if (!want.equals(got)) {
            wrong++;
            StringBuilder lines = new StringBuilder();
            for (StackTraceElement at : new Throwable().getStackTrace()) {
                lines.append(' ').append(at.getLineNumber());
            }
            System.out.println("promise " + promise + ", lines" + lines + ": answered " + got
                    + ", due is " + want);
        }
    }

    public static void main(String[] args) {
        newObject();
        variable();
        term();
        terms();
        ofTerm();
        at();
        compare();
        fits();
        meet();
        equation();
        complete();
        completeTakesAway();
        completeStopsByRules();
        completeStopsByEquations();
        dropRule();
        many();
        rule();
        normal();
        steps();
        areEqual();
        overlaps();
        meanSize();
        formula();
        formulas();
        isProved();
        isProvedByRules();
        proof();
        line();
        unline();
        isRight();
        isRightByRules();
        given();
        firstWrong();
        rulesAfter();
        sizeWithout();
        digest();
        if (wrong > 0 || promise != 31) {
            System.out.println(wrong + " answers are wrong, the last promise is " + promise);
            System.exit(1);
        }
    }

    // ---- what the tests share

    private static int built(Latticework l, String text) {
        int[] at = {0};
        int number = part(l, text, at);
        if (at[0] != text.length()) {
            throw new RuntimeException("no TERM: " + text);
        }
        return number;
    }

    private static int part(Latticework l, String text, int[] at) {
        char c = text.charAt(at[0]++);
        if (c >= 'w') {
            return l.variable(c - 'w');
        }
        int sign = c - '0';
        int a = sign >= 2 ? part(l, text, at) : -7;
        int b = sign >= 4 ? part(l, text, at) : -7;
        return l.term(sign, a, b);
    }

    private static String text(Latticework l, int term) {
        StringBuilder text = new StringBuilder();
        for (int place = 0; place < l.ofTerm(term, 0); place++) {
            int at = l.at(term, place);
            text.append((char) (at >= 10 ? 'w' + at - 10 : '0' + at));
        }
        return text.toString();
    }

    private static int wait(Latticework l, String one, String other) {
        return l.equation(built(l, one), built(l, other));
    }

    /** A workshop in which each pair of texts became an EQUATION and was completed by a STEP. */
    private static Latticework ruled(String... sides) {
        Latticework l = new Latticework();
        for (int i = 0; i < sides.length; i += 2) {
            wait(l, sides[i], sides[i + 1]);
            l.complete(1);
        }
        return l;
    }

    private static String rules(Latticework l) {
        StringBuilder text = new StringBuilder();
        for (int rule = 0; rule < l.many(0); rule++) {
            text.append(text(l, l.rule(rule, true))).append('>').append(text(l, l.rule(rule, false))).append(' ');
        }
        return text.toString().trim();
    }

    private static String counts(Latticework l) {
        StringBuilder text = new StringBuilder();
        for (int what = 0; what <= 4; what++) {
            text.append(l.many(what)).append(' ');
        }
        return text.toString().trim();
    }

    /** Builds TERMS without VARIABLES, of the signs 0, 2, 4 and 5, till there are as many. */
    private static void fill(Latticework l, int most) {
        int[] chain = new int[12];
        chain[0] = l.term(0, 0, 0);
        for (int i = 1; i < 12; i++) {
            chain[i] = l.term(2, chain[i - 1], 0);
        }
        for (int i = 0; i < 50 && l.terms() < most; i++) {
            l.term(4 + i / 25, chain[i / 5 % 5], chain[i % 5]);
        }
    }

    private static String chain(char sign, int times, String rest) {
        return String.valueOf(sign).repeat(times) + rest;
    }

    // ---- terms

    private static void newObject() {
        promise = 1;
        Latticework l = new Latticework();
        due(0, () -> l.terms());
        due(0, () -> l.formulas());
        due("0 0 0 0 0", () -> counts(l));
        due(0.0, () -> l.meanSize());
        due(-1, () -> l.firstWrong());
        due(58092L * 31 * 31 * 31 * 31 * 31 * 31, () -> l.digest());
        l.variable(1);
        due(0, () -> new Latticework().terms());
    }

    private static void variable() {
        promise = 2;
        Latticework l = new Latticework();
        due(0, () -> l.variable(3));
        due(1, () -> l.variable(0));
        due(0, () -> l.variable(3));
        due(2, () -> l.terms());
        due(13, () -> l.at(0, 0));
        for (int odd : new int[] {4, -1, LOW, HIGH}) {
            due(ARGUMENT, () -> l.variable(odd));
        }
        due(2, () -> l.terms());
        Latticework full = new Latticework();
        fill(full, 59);
        due(59, () -> full.terms());
        due(59, () -> full.variable(2));
        due(STATE, () -> full.variable(1));
        due(59, () -> full.variable(2));
        due(ARGUMENT, () -> full.variable(4));
        due(60, () -> full.terms());
    }

    private static void term() {
        promise = 3;
        Latticework l = new Latticework();
        due(INDEX, () -> l.term(2, 0, 0));
        due(0, () -> l.term(0, -5, 99));
        due(1, () -> l.term(1, 99, -5));
        due(2, () -> l.term(2, 0, -5));
        due(3, () -> l.term(3, 0, 77));
        due(2, () -> l.term(2, 0, 8));
        due(4, () -> l.term(4, 0, 1));
        due(5, () -> l.term(5, 0, 1));
        due(6, () -> l.term(4, 1, 0));
        due("401", () -> text(l, 4));
        due("410", () -> text(l, 6));
        due(INDEX, () -> l.term(2, 7, 0));
        due(INDEX, () -> l.term(2, -1, 0));
        due(INDEX, () -> l.term(4, 0, 7));
        due(INDEX, () -> l.term(4, 7, 0));
        due(INDEX, () -> l.term(5, LOW, 0));
        due(INDEX, () -> l.term(5, 0, HIGH));
        for (int odd : new int[] {6, -1, LOW, HIGH}) {
            due(ARGUMENT, () -> l.term(odd, 99, 99));
        }
        due(7, () -> l.terms());
        int five = built(l, "44000");
        int six = built(l, "244000");
        int twelve = l.term(4, five, six);
        int before = l.terms();
        due("444000244000", () -> text(l, twelve));
        due(ARGUMENT, () -> l.term(4, six, six));
        due(ARGUMENT, () -> l.term(2, twelve, 0));
        due(ARGUMENT, () -> l.term(5, twelve, twelve));
        due(INDEX, () -> l.term(4, twelve, 99));
        due(before, () -> l.terms());
        Latticework full = new Latticework();
        fill(full, 60);
        due(60, () -> full.terms());
        due(STATE, () -> full.term(3, 0, 0));
        due(STATE, () -> full.term(1, 0, 0));
        due(INDEX, () -> full.term(4, 0, 60));
        due(ARGUMENT, () -> full.term(6, 0, 0));
        due(ARGUMENT, () -> full.term(3, 11, 0));
        due(1, () -> full.term(2, 0, 0));
        due(60, () -> full.terms());
    }

    private static void terms() {
        promise = 4;
        Latticework l = new Latticework();
        l.term(1, 0, 0);
        due(1, () -> l.terms());
        l.term(1, 5, 5);
        due(1, () -> l.terms());
        l.term(4, 0, 0);
        due(2, () -> l.terms());
        // the side of a RULE is numbered as it is told of, once, and the parts of it are not
        Latticework told = ruled("3x", "x", "432x32x", "0");
        int before = told.terms();
        due(before, () -> told.rule(1, true));
        due("42x2x", () -> text(told, before));
        due(before, () -> told.rule(1, true));
        due(before + 1, () -> told.terms());
    }

    private static void ofTerm() {
        promise = 5;
        Latticework l = new Latticework();
        int twice = built(l, "4x5xy");
        due(5, () -> l.ofTerm(twice, 0));
        due(2, () -> l.ofTerm(twice, 1));
        int all = built(l, "54wx4yz");
        due(7, () -> l.ofTerm(all, 0));
        due(4, () -> l.ofTerm(all, 1));
        int none = built(l, "20");
        due(2, () -> l.ofTerm(none, 0));
        due(0, () -> l.ofTerm(none, 1));
        int alone = built(l, "z");
        due(1, () -> l.ofTerm(alone, 0));
        due(1, () -> l.ofTerm(alone, 1));
        int longest = built(l, chain('2', 11, "y"));
        due(12, () -> l.ofTerm(longest, 0));
        for (int odd : new int[] {2, -1, LOW, HIGH}) {
            due(ARGUMENT, () -> l.ofTerm(0, odd));
            due(INDEX, () -> l.ofTerm(l.terms(), odd));
            due(INDEX, () -> l.ofTerm(-1, odd));
        }
        due(INDEX, () -> l.ofTerm(l.terms(), 0));
        due(INDEX, () -> l.ofTerm(HIGH, 1));
        due(INDEX, () -> l.ofTerm(LOW, 1));
    }

    private static void at() {
        promise = 6;
        Latticework l = new Latticework();
        int term = built(l, "45w2x30");
        int[] places = {4, 5, 10, 2, 11, 3, 0};
        for (int place = 0; place < places.length; place++) {
            int asked = place;
            due(places[place], () -> l.at(term, asked));
        }
        due(13, () -> l.at(l.variable(3), 0));
        due(12, () -> l.at(l.variable(2), 0));
        due(1, () -> l.at(l.term(1, 0, 0), 0));
        int longest = built(l, chain('3', 11, "1"));
        due(1, () -> l.at(longest, 11));
        for (int odd : new int[] {12, 13, 16, 28, -1, LOW, HIGH}) {
            due(INDEX, () -> l.at(longest, odd));
            due(INDEX, () -> l.at(term, odd));
        }
        due(INDEX, () -> l.at(term, 7));
        due(INDEX, () -> l.at(l.terms(), 0));
        due(INDEX, () -> l.at(-1, 0));
    }

    private static int compared(String one, String other) {
        Latticework l = new Latticework();
        return l.compare(built(l, one), built(l, other));
    }

    private static void comparedIs(int want, String one, String other) {
        due(want, () -> compared(one, other));
        due(-want, () -> compared(other, one));
    }

    private static void compare() {
        promise = 7;
        comparedIs(0, "x", "x");
        comparedIs(0, "4x0", "4x0");
        comparedIs(0, "x", "y");
        comparedIs(0, "0", "x");
        comparedIs(0, "2x", "2y");
        // by the SIZE, if no VARIABLE is more often in the smaller one
        comparedIs(1, "4xy", "x");
        comparedIs(1, "22x", "3x");
        comparedIs(1, "220", "31");
        comparedIs(0, "222x", "4xx");
        comparedIs(0, "44000", "y");
        // by the sign
        comparedIs(1, "1", "0");
        comparedIs(1, "5xy", "4yx");
        comparedIs(1, "3x", "2x");
        comparedIs(0, "3x", "2y");
        // by the first two parts that are not the same
        comparedIs(1, "42xx", "4x2x");
        comparedIs(1, "44xyz", "4x4yz");
        comparedIs(1, "4x3y", "4x2y");
        comparedIs(1, "410", "401");
        comparedIs(1, "24x1", "24x0");
        comparedIs(0, "4xy", "4yx");
        // the second parts are not asked: x against 0 is neither
        comparedIs(0, "5x1", "500");
        // in the parts, too, no VARIABLE may be more often: 2x is not GREATER than y
        comparedIs(0, "42xy", "4y2x");
        Latticework l = new Latticework();
        l.variable(0);
        for (int odd : new int[] {1, -1, LOW, HIGH}) {
            due(INDEX, () -> l.compare(0, odd));
            due(INDEX, () -> l.compare(odd, 0));
        }
    }

    private static boolean fitted(String one, String other) {
        Latticework l = new Latticework();
        return l.fits(built(l, one), built(l, other));
    }

    private static void fits() {
        promise = 8;
        due(true, () -> fitted("x", "42y0"));
        due(false, () -> fitted("42y0", "x"));
        due(true, () -> fitted("4xx", "42y2y"));
        due(false, () -> fitted("4xx", "42y2x"));
        due(true, () -> fitted("4xy", "400"));
        due(true, () -> fitted("4xy", "4yx"));
        due(false, () -> fitted("4xy", "5yx"));
        due(false, () -> fitted("4x0", "401"));
        due(true, () -> fitted("0", "0"));
        due(false, () -> fitted("0", "w"));
        due(false, () -> fitted("20", "2w"));
        due(true, () -> fitted("4x2x", "44x024x0"));
        due(false, () -> fitted("4x2x", "44x024y0"));
        due(true, () -> fitted("54wx4yz", "54014zz"));
        // the whole, not a part
        due(false, () -> fitted("2x", "32x"));
        due(true, () -> fitted("3x", "32x"));
        // what is put for a VARIABLE may hold it
        due(true, () -> fitted("2x", "22x"));
        due(true, () -> fitted(chain('2', 11, "z"), chain('2', 11, "1")));
        Latticework l = new Latticework();
        l.variable(0);
        for (int odd : new int[] {1, -1, LOW, HIGH}) {
            due(INDEX, () -> l.fits(0, odd));
            due(INDEX, () -> l.fits(odd, 0));
        }
    }

    private static int met(String one, String other) {
        Latticework l = new Latticework();
        int first = built(l, one);
        return l.meet(first, built(l, other));
    }

    private static void metIs(int want, String one, String other) {
        due(want, () -> met(one, other));
        due(want, () -> met(other, one));
    }

    private static void meet() {
        promise = 9;
        metIs(1, "x", "x");
        metIs(1, "x", "y");
        metIs(1, "0", "0");
        metIs(-1, "0", "1");
        metIs(2, "2x", "x");
        metIs(-1, "2x", "3x");
        metIs(3, "4x0", "41x");
        metIs(-1, "4xx", "401");
        metIs(3, "4xx", "4yz");
        metIs(5, "4xx", "42y2z");
        metIs(6, "4x2y", "42xx");
        metIs(6, "44xyx", "44z2zz");
        // a VARIABLE in what would be put for it, at once and by way of another one
        metIs(-1, "4xx", "4y2y");
        metIs(-1, "54xy4yx", "54z2z4z2z");
        metIs(-1, "44xyx", "44z2x2z");
        // 5 44bb4bb 5 4bb 4bb is above 12
        metIs(15, "5x5yy", "54xx5x4yy");
        Latticework l = new Latticework();
        l.variable(0);
        for (int odd : new int[] {1, -1, LOW, HIGH}) {
            due(INDEX, () -> l.meet(0, odd));
            due(INDEX, () -> l.meet(odd, 0));
        }
        due(1, () -> l.terms());
    }

    // ---- equations and rules

    private static void equation() {
        promise = 10;
        Latticework l = new Latticework();
        built(l, "2w");
        for (int odd : new int[] {2, -1, LOW, HIGH}) {
            due(INDEX, () -> l.equation(0, odd));
            due(INDEX, () -> l.equation(odd, 0));
        }
        for (int waiting = 1; waiting <= 20; waiting++) {
            int other = waiting % 2;
            due(waiting, () -> l.equation(0, other));
        }
        due("0 20 0 0 0", () -> counts(l));
        due(STATE, () -> l.equation(0, 1));
        due(INDEX, () -> l.equation(0, 2));
        due(INDEX, () -> l.equation(2, 0));
        due("0 20 0 0 0", () -> counts(l));
        // they are taken from the first one on: 2w and w, then w and w
        l.complete(1);
        due("2w>w", () -> rules(l));
        due(20, () -> l.equation(0, 0));
    }

    /** The RULES of a group as far as 0 on the left, 2 for the inverse, and what may be left out. */
    private static Latticework group() {
        return ruled("40x", "x", "42xx", "0", "44xyz", "4x4yz");
    }

    private static void complete() {
        promise = 11;
        Latticework l = new Latticework();
        wait(l, "x", "3x");
        due(1, () -> l.complete(1));
        due("3x>x", () -> rules(l));
        wait(l, "4xy", "4yx");
        due(1, () -> l.complete(3));
        due("1 0 1 2 0", () -> counts(l));
        wait(l, "33x", "3x");
        due(1, () -> l.complete(1));
        due("1 0 1 3 0", () -> counts(l));
        // both sides become their NORMAL TERMS first
        wait(l, "30", "423x1");
        due(2, () -> l.complete(1));
        due("3x>x 42x1>0", () -> rules(l));
        for (int odd : new int[] {0, 4, -1, LOW, HIGH}) {
            due(ARGUMENT, () -> l.complete(odd));
        }
        due(2, () -> l.complete(3));
        due("2 0 1 4 0", () -> counts(l));
        for (int i = 0; i < 6; i++) {
            wait(l, "x", "x");
        }
        l.complete(2);
        due("2 4 1 6 0", () -> counts(l));
        l.complete(3);
        l.complete(3);
        due("2 0 1 10 0", () -> counts(l));
        Latticework group = group();
        // (0x)y and (2xx)y of the third RULE, and it into itself
        due("3 3 0 3 0", () -> counts(group));
        group.complete(1);
        due("3 2 0 4 0", () -> counts(group));
        // 40z and 42a4az: the first side gives the VARIABLES their numbers
        group.complete(1);
        due("4 6 0 5 0", () -> counts(group));
        due("40x>x 42xx>0 44xyz>4x4yz 42x4xw>w", () -> rules(group));
    }

    private static void completeTakesAway() {
        Latticework l = ruled("32x", "x", "5xx", "0", "42xy", "y");
        due("32x>x 5xx>0 42xy>y", () -> rules(l));
        wait(l, "2x", "x");
        due(2, () -> l.complete(1));
        due("5xx>0 2x>x", () -> rules(l));
        due("2 2 0 4 0", () -> counts(l));
        l.complete(1);
        due("5xx>0 2x>x 3x>x", () -> rules(l));
        l.complete(1);
        due("5xx>0 2x>x 3x>x 4xy>y", () -> rules(l));
        // at PLACE 0, too
        Latticework whole = ruled("4xx", "x", "4xy", "x");
        due("4xy>x", () -> rules(whole));
        due("1 1 0 2 0", () -> counts(whole));
    }

    private static Latticework eightRules() {
        return ruled("400", "0", "401", "0", "410", "0", "411", "0",
                "500", "0", "501", "0", "510", "0", "511", "0");
    }

    private static void completeStopsByRules() {
        Latticework l = eightRules();
        due("8 0 0 8 0", () -> counts(l));
        wait(l, "400", "0");
        l.complete(1);
        due("8 0 0 9 0", () -> counts(l));
        // a ninth one, though it would take four away
        wait(l, "4xy", "0");
        due(8, () -> l.complete(3));
        due("8 1 0 9 1", () -> counts(l));
        due("400 401 410 411 500 501 510 511", () -> rules(l).replace(">0", ""));
        due(7, () -> l.dropRule(0));
        due(7, () -> l.complete(3));
        due("7 1 0 9 1", () -> counts(l));
        due(INDEX, () -> l.equation(0, 99));
        due(1, () -> l.many(4));
        due(2, () -> wait(l, "1", "1"));
        due("7 2 0 9 0", () -> counts(l));
        due(5, () -> l.complete(1));
        due("500 501 510 511 4xy", () -> rules(l).replace(">0", ""));
        due("5 4 0 10 0", () -> counts(l));
    }

    private static void completeStopsByEquations() {
        // one OVERLAP of the new RULE: 20 wait then, and no more
        Latticework most = new Latticework();
        wait(most, "44xyz", "4x4yz");
        for (int i = 1; i < 20; i++) {
            wait(most, "0", "0");
        }
        due(1, () -> most.complete(1));
        due("1 20 0 1 0", () -> counts(most));
        Latticework l = ruled("40x", "x", "42xx", "0");
        wait(l, "44xyz", "4x4yz");
        for (int i = 1; i < 19; i++) {
            wait(l, "0", "0");
        }
        due(2, () -> l.complete(3));
        due("2 19 0 2 1", () -> counts(l));
        due("40x>x 42xx>0", () -> rules(l));
        due(1, () -> l.dropRule(1));
        due(0, () -> l.dropRule(0));
        due(0, () -> l.complete(3));
        due(20, () -> wait(l, "1", "1"));
        due(STATE, () -> l.equation(0, 0));
        // it is the first EQUATION again, and has one OVERLAP now
        due(1, () -> l.complete(1));
        due("44xyz>4x4yz", () -> rules(l));
        due("1 20 0 3 0", () -> counts(l));
        // with 20 that wait nothing can begin it anew
        Latticework stopped = ruled("40x", "x");
        wait(stopped, "44xyz", "4x4yz");
        for (int i = 1; i < 20; i++) {
            wait(stopped, "0", "0");
        }
        due(1, () -> stopped.complete(1));
        due("1 20 0 1 1", () -> counts(stopped));
        due(STATE, () -> stopped.equation(0, 0));
        due("1 20 0 1 1", () -> counts(stopped));
    }

    private static void dropRule() {
        promise = 12;
        Latticework l = ruled("2x", "x", "3x", "x", "5xx", "0");
        int three = built(l, "3w");
        due(1, () -> l.ofTerm(l.normal(three), 0));
        for (int odd : new int[] {3, -1, LOW, HIGH}) {
            due(INDEX, () -> l.dropRule(odd));
        }
        due(2, () -> l.dropRule(1));
        due("2x>x 5xx>0", () -> rules(l));
        due(three, () -> l.normal(three));
        due(INDEX, () -> l.dropRule(2));
        due(1, () -> l.dropRule(0));
        due("5xx>0", () -> rules(l));
        due(0, () -> l.dropRule(0));
        due(INDEX, () -> l.dropRule(0));
        due("0 0 0 3 0", () -> counts(l));
    }

    private static void many() {
        promise = 13;
        Latticework l = ruled("40x", "x", "44xyz", "4x4yz", "5xy", "5yx", "0", "0");
        due(2, () -> l.many(0));
        due(2, () -> l.many(1));
        due(0, () -> l.many(2));
        due(4, () -> l.many(3));
        due(0, () -> l.many(4));
        // what was put ASIDE is counted on, though RULES come or go
        Latticework aside = ruled("5xy", "5yx", "x", "y", "0", "z", "2x", "x");
        due("1 0 3 4 0", () -> counts(aside));
        aside.dropRule(0);
        due("0 0 3 4 0", () -> counts(aside));
        for (int odd : new int[] {5, -1, LOW, HIGH}) {
            due(ARGUMENT, () -> l.many(odd));
        }
    }

    private static void rule() {
        promise = 14;
        Latticework l = ruled("3x", "x", "432x32x", "0");
        for (int odd : new int[] {2, -1, LOW, HIGH}) {
            due(INDEX, () -> l.rule(odd, true));
            due(INDEX, () -> l.rule(odd, false));
        }
        due(built(l, "3x"), () -> l.rule(0, true));
        due(built(l, "x"), () -> l.rule(0, false));
        due(built(l, "0"), () -> l.rule(1, false));
        fill(l, 60);
        due(60, () -> l.terms());
        due(STATE, () -> l.rule(1, true));
        due(built(l, "0"), () -> l.rule(1, false));
        due(INDEX, () -> l.rule(2, true));
        Latticework last = ruled("3x", "x", "432x32x", "0");
        fill(last, 59);
        due(59, () -> last.rule(1, true));
        due("42x2x", () -> text(last, 59));
    }

    private static void normal() {
        promise = 15;
        Latticework l = ruled("3x", "x", "4xx", "0");
        due(built(l, "x"), () -> l.normal(built(l, "x")));
        due(built(l, "0"), () -> l.normal(built(l, "433x3x")));
        int long5 = built(l, "53y23z");
        int before = l.terms();
        due(before, () -> l.normal(long5));
        due("5y2z", () -> text(l, before));
        due(before, () -> l.normal(long5));
        for (int odd : new int[] {before + 1, -1, LOW, HIGH}) {
            due(INDEX, () -> l.normal(odd));
        }
        // at the smallest PLACE, not by the smallest RULE: 32x is x, though 20 is 0
        Latticework place = ruled("20", "0", "32x", "x");
        due("20>0 32x>x", () -> rules(place));
        due("0", () -> text(place, place.normal(built(place, "320"))));
        // of two at one PLACE the smaller RULE
        Latticework number = ruled("40x", "x", "4x1", "0");
        due("40x>x 4x1>0", () -> rules(number));
        due("1", () -> text(number, number.normal(built(number, "401"))));
        // 30 times at most
        Latticework often = ruled("32x", "23x", "30", "20");
        due(chain('2', 8, "0"), () -> text(often, often.normal(built(often, "333332220"))));
        due(true, () -> text(often, often.normal(built(often, "3333322220"))).indexOf('3') >= 0);
        Latticework full = ruled("3x", "x");
        int term = built(full, "533y1");
        int same = built(full, "3x");
        fill(full, 60);
        due(STATE, () -> full.normal(term));
        due(60, () -> full.terms());
        due(built(full, "x"), () -> full.normal(same));
        due(INDEX, () -> full.normal(60));
    }

    private static void steps() {
        promise = 16;
        Latticework l = ruled("3x", "x", "4xx", "0");
        due(0, () -> l.steps(built(l, "x")));
        due(1, () -> l.steps(built(l, "3x")));
        // after the first one the whole is 4xx
        due(2, () -> l.steps(built(l, "433x3x")));
        due(3, () -> l.steps(built(l, "533x3x")));
        for (int odd : new int[] {l.terms(), -1, LOW, HIGH}) {
            due(INDEX, () -> l.steps(odd));
        }
        Latticework often = ruled("32x", "23x", "30", "20");
        due(28, () -> often.steps(built(often, "33333330")));
        due(30, () -> often.steps(built(often, "333332220")));
        due(30, () -> often.steps(built(often, "3333322220")));
        due(30, () -> often.steps(built(often, chain('3', 11, "0"))));
        // it follows the RULES, and needs no room for TERMS
        fill(l, 60);
        int term = built(l, "3x");
        l.dropRule(0);
        due(0, () -> l.steps(term));
        due(60, () -> l.terms());
    }

    private static void areEqual() {
        promise = 17;
        Latticework l = group();
        due(true, () -> l.areEqual(built(l, "44xy2z"), built(l, "4x4y2z")));
        due(true, () -> l.areEqual(built(l, "42yy"), built(l, "42zz")));
        due(false, () -> l.areEqual(built(l, "42yz"), built(l, "0")));
        due(true, () -> l.areEqual(0, 0));
        due(false, () -> l.areEqual(built(l, "x"), built(l, "y")));
        for (int odd : new int[] {l.terms(), -1, LOW, HIGH}) {
            due(INDEX, () -> l.areEqual(0, odd));
            due(INDEX, () -> l.areEqual(odd, 0));
        }
        int one = built(l, "42yy");
        int other = built(l, "0");
        l.dropRule(1);
        due(false, () -> l.areEqual(one, other));
        Latticework full = ruled("3x", "x");
        int three = built(full, "43x1");
        int five = built(full, "433x1");
        fill(full, 60);
        due(true, () -> full.areEqual(three, five));
    }

    private static void overlaps() {
        promise = 18;
        Latticework l = group();
        due(0, () -> l.overlaps(0, 0));
        due(1, () -> l.overlaps(0, 2));
        due(0, () -> l.overlaps(2, 0));
        due(1, () -> l.overlaps(1, 2));
        due(0, () -> l.overlaps(2, 1));
        due(1, () -> l.overlaps(2, 2));
        due(0, () -> l.overlaps(0, 1));
        due("3 3 0 3 0", () -> counts(l));
        for (int odd : new int[] {3, -1, LOW, HIGH}) {
            due(INDEX, () -> l.overlaps(0, odd));
            due(INDEX, () -> l.overlaps(odd, 0));
        }
        // of one RULE not at PLACE 0; of two also there
        Latticework ends = ruled("40x", "x", "4x1", "0");
        due(1, () -> ends.overlaps(0, 1));
        due(1, () -> ends.overlaps(1, 0));
        // 222x is 2x both ways: left out; with 3x it is 23x and 32x
        due(0, () -> ruled("22x", "x").overlaps(0, 0));
        due(1, () -> ruled("22x", "3x").overlaps(0, 0));
        // at two PLACES
        due(2, () -> ruled("42x2y", "x", "20", "1").overlaps(1, 0));
        // one side of 12, and one of 13
        due(1, () -> ruled("42x4xx", "x", "22400", "20").overlaps(1, 0));
        due(0, () -> ruled("42x4xx", "x", "222400", "0").overlaps(1, 0));
        // four VARIABLES, and five
        due(1, () -> ruled("54xyz", "4xy", "44wxy", "4w4xy").overlaps(1, 0));
        due(0, () -> ruled("54xy4zw", "4x4y4zw", "44wxy", "4w4xy").overlaps(1, 0));
    }

    private static void meanSize() {
        promise = 19;
        due(0.0, () -> new Latticework().meanSize());
        due(2.0, () -> ruled("2x", "x").meanSize());
        due(2.5, () -> ruled("2x", "x", "5xx", "0").meanSize());
        due(7.0 / 3, () -> ruled("2x", "x", "5xx", "0", "3x", "x").meanSize());
        Latticework l = ruled("2x", "x");
        l.dropRule(0);
        due(0.0, () -> l.meanSize());
    }

    // ---- formulas

    private static final int ATOM = 0;
    private static final int EQUALITY = 1;
    private static final int NOT = 2;
    private static final int AND = 3;
    private static final int OR = 4;
    private static final int IMPLIES = 5;

    private static int equality(Latticework l, String one, String other) {
        return l.formula(EQUALITY, built(l, one), built(l, other));
    }

    /** A workshop whose FORMULAS 0 to 5 are the ATOMS, each by its number. */
    private static Latticework atoms() {
        Latticework l = new Latticework();
        for (int atom = 0; atom < 6; atom++) {
            l.formula(ATOM, atom, 0);
        }
        return l;
    }

    private static void formula() {
        promise = 20;
        Latticework l = new Latticework();
        l.variable(0);
        l.variable(1);
        due(0, () -> l.formula(ATOM, 0, 99));
        due(0, () -> l.formula(ATOM, 0, -1));
        due(1, () -> l.formula(ATOM, 5, 0));
        for (int odd : new int[] {6, -1, LOW, HIGH}) {
            due(ARGUMENT, () -> l.formula(ATOM, odd, 0));
            due(ARGUMENT, () -> l.formula(odd, 0, 0));
            due(ARGUMENT, () -> l.formula(odd, 99, 99));
        }
        due(2, () -> l.formula(EQUALITY, 0, 1));
        due(3, () -> l.formula(EQUALITY, 1, 0));
        due(2, () -> l.formula(EQUALITY, 0, 1));
        for (int odd : new int[] {2, -1, LOW, HIGH}) {
            due(INDEX, () -> l.formula(EQUALITY, 0, odd));
            due(INDEX, () -> l.formula(EQUALITY, odd, 0));
        }
        due(4, () -> l.formula(NOT, 0, 99));
        due(4, () -> l.formula(NOT, 0, -3));
        for (int kind = AND; kind <= IMPLIES; kind++) {
            int asked = kind;
            due(2 + kind, () -> l.formula(asked, 0, 1));
            due(2 + kind, () -> l.formula(asked, 0, 1));
        }
        due(8, () -> l.formula(AND, 1, 0));
        for (int odd : new int[] {9, -1, LOW, HIGH}) {
            due(INDEX, () -> l.formula(NOT, odd, 0));
            for (int kind = AND; kind <= IMPLIES; kind++) {
                int asked = kind;
                due(INDEX, () -> l.formula(asked, 0, odd));
                due(INDEX, () -> l.formula(asked, odd, 0));
            }
        }
        due(9, () -> l.formulas());
        formulaLimits();
    }

    private static void formulaLimits() {
        // how many of the kinds 2 to 5: one, three, five and six
        Latticework l = atoms();
        int one = l.formula(NOT, 0, 0);
        int three = l.formula(AND, one, one);
        int five = l.formula(OR, three, one);
        int six = l.formula(NOT, five, 0);
        due(six + 1, () -> l.formula(IMPLIES, five, 1));
        int two = l.formula(NOT, one, 0);
        due(two + 1, () -> l.formula(AND, three, two));
        int before = l.formulas();
        due(ARGUMENT, () -> l.formula(NOT, six, 0));
        due(ARGUMENT, () -> l.formula(AND, three, three));
        due(ARGUMENT, () -> l.formula(OR, six, 0));
        due(ARGUMENT, () -> l.formula(IMPLIES, 0, six));
        due(INDEX, () -> l.formula(AND, six, 99));
        due(before, () -> l.formulas());
        Latticework full = atoms();
        for (int kind = AND; kind <= OR; kind++) {
            for (int i = 0; i < 36 && full.formulas() < 40; i++) {
                full.formula(kind, i / 6, i % 6);
            }
        }
        due(40, () -> full.formulas());
        due(STATE, () -> full.formula(IMPLIES, 0, 0));
        due(STATE, () -> full.formula(NOT, 0, 0));
        due(6, () -> full.formula(AND, 0, 0));
        due(INDEX, () -> full.formula(AND, 0, 40));
        due(INDEX, () -> full.formula(EQUALITY, 0, 0));
        due(ARGUMENT, () -> full.formula(ATOM, 6, 0));
        due(ARGUMENT, () -> full.formula(6, 0, 0));
        due(40, () -> full.formulas());
    }

    private static void formulas() {
        promise = 21;
        Latticework l = atoms();
        due(6, () -> l.formulas());
        l.formula(ATOM, 3, 7);
        due(6, () -> l.formulas());
        l.formula(NOT, 3, 7);
        due(7, () -> l.formulas());
    }

    private static void isProved() {
        promise = 22;
        Latticework l = atoms();
        int not = l.formula(NOT, 0, 0);
        int and = l.formula(AND, 0, 1);
        int or = l.formula(OR, 0, 1);
        int implies = l.formula(IMPLIES, 0, 1);
        due(false, () -> l.isProved(0));
        due(false, () -> l.isProved(implies));
        due(true, () -> l.isProved(l.formula(IMPLIES, 0, 0)));
        due(true, () -> l.isProved(l.formula(OR, 0, not)));
        due(false, () -> l.isProved(l.formula(AND, 0, not)));
        due(true, () -> l.isProved(l.formula(NOT, l.formula(AND, 0, not), 0)));
        due(true, () -> l.isProved(l.formula(IMPLIES, and, 1)));
        due(false, () -> l.isProved(l.formula(IMPLIES, or, 0)));
        due(true, () -> l.isProved(l.formula(IMPLIES, 0, or)));
        due(false, () -> l.isProved(l.formula(IMPLIES, 0, and)));
        due(true, () -> l.isProved(l.formula(IMPLIES, l.formula(IMPLIES, implies, 0), 0)));
        due(true, () -> l.isProved(l.formula(IMPLIES, l.formula(AND, implies, 0), 1)));
        due(false, () -> l.isProved(l.formula(IMPLIES, l.formula(AND, implies, 1), 0)));
        for (int odd : new int[] {l.formulas(), -1, LOW, HIGH}) {
            due(INDEX, () -> l.isProved(odd));
        }
    }

    private static void isProvedByRules() {
        Latticework l = atoms();
        int same = equality(l, "2x", "2x");
        int one = equality(l, "30", "1");
        int other = equality(l, "1", "0");
        int likeX = equality(l, "3x", "x");
        int both = l.formula(IMPLIES, one, other);
        int turned = l.formula(IMPLIES, other, equality(l, "0", "1"));
        due(true, () -> l.isProved(same));
        due(false, () -> l.isProved(one));
        due(true, () -> l.isProved(turned));
        due(false, () -> l.isProved(both));
        due(false, () -> l.isProved(likeX));
        // what is TRUE on the left closes nothing, not even with what is TRUE elsewhere
        due(false, () -> l.isProved(l.formula(NOT, same, 0)));
        due(false, () -> l.isProved(l.formula(IMPLIES, same, one)));
        due(true, () -> l.isProved(l.formula(IMPLIES, 0, same)));
        wait(l, "3x", "x");
        l.complete(1);
        due(true, () -> l.isProved(both));
        due(false, () -> l.isProved(one));
        due(true, () -> l.isProved(likeX));
        l.dropRule(0);
        due(false, () -> l.isProved(both));
        due(false, () -> l.isProved(likeX));
    }

    private static void proofIs(Latticework l, int formula, int apart, int closed, int open) {
        due(apart, () -> l.proof(formula, 0));
        due(closed, () -> l.proof(formula, 1));
        due(open, () -> l.proof(formula, 2));
    }

    private static void proof() {
        promise = 23;
        Latticework l = atoms();
        int and = l.formula(AND, 0, 1);
        int or = l.formula(OR, 0, 1);
        int implies = l.formula(IMPLIES, 0, 1);
        proofIs(l, 5, 0, 0, 0);
        proofIs(l, l.formula(NOT, 5, 0), 1, 0, 32);
        proofIs(l, l.formula(IMPLIES, l.formula(IMPLIES, implies, 0), 0), 3, 2, -1);
        // the left one first: 0 closes, 1 is OPEN
        proofIs(l, l.formula(IMPLIES, or, 0), 2, 1, 2);
        // what is behind an OPEN one is not looked at
        proofIs(l, l.formula(IMPLIES, or, 1), 2, 0, 1);
        proofIs(l, l.formula(IMPLIES, 0, and), 2, 1, 1);
        proofIs(l, l.formula(IMPLIES, 1, and), 2, 0, 2);
        proofIs(l, l.formula(IMPLIES, implies, 2), 2, 0, 0);
        // the same FORMULA on both sides does not close, if it is no ATOM
        proofIs(l, l.formula(IMPLIES, and, l.formula(OR, 2, and)), 4, 2, -1);
        // the first on the left is the OR: it leaves the AND and 0, then 0, 2 and 3
        int two = l.formula(AND, or, l.formula(AND, 2, 3));
        proofIs(l, l.formula(IMPLIES, two, 4), 4, 0, 1 + 4 + 8);
        Latticework told = atoms();
        int same = equality(told, "x", "x");
        int odd = equality(told, "x", "0");
        proofIs(told, same, 0, 1, -1);
        proofIs(told, odd, 0, 0, 0);
        proofIs(told, told.formula(IMPLIES, told.formula(AND, 1, odd), 0), 2, 0, 2);
        for (int what : new int[] {3, -1, LOW, HIGH}) {
            due(ARGUMENT, () -> l.proof(0, what));
            due(INDEX, () -> l.proof(l.formulas(), what));
        }
        for (int none : new int[] {l.formulas(), -1, LOW, HIGH}) {
            due(INDEX, () -> l.proof(none, 0));
        }
    }

    // ---- proofs

    private static void line() {
        promise = 24;
        Latticework l = new Latticework();
        l.formula(ATOM, 0, 0);
        for (int odd : new int[] {1, -1, LOW, HIGH}) {
            due(INDEX, () -> l.line(odd, 0, 0, 0));
            due(INDEX, () -> l.line(odd, 10, 0, 0));
        }
        for (int odd : new int[] {10, -1, LOW, HIGH}) {
            due(ARGUMENT, () -> l.line(0, odd, 5, 5));
        }
        due(INDEX, () -> l.line(0, 9, 0, 0));
        due(0, () -> l.line(0, 0, -9, HIGH));
        due(1, () -> l.line(0, 8, 99, LOW));
        int number = 2;
        for (int reason : new int[] {3, 4, 5, 6, 9}) {
            due(number++, () -> l.line(0, reason, 1, -5));
            for (int odd : new int[] {number, -1, LOW, HIGH}) {
                due(INDEX, () -> l.line(0, reason, odd, 0));
            }
        }
        for (int reason : new int[] {1, 2, 7}) {
            due(number++, () -> l.line(0, reason, 1, 0));
            for (int odd : new int[] {number, -1, LOW, HIGH}) {
                due(INDEX, () -> l.line(0, reason, odd, 0));
                due(INDEX, () -> l.line(0, reason, 0, odd));
            }
        }
        while (number < 24) {
            due(number++, () -> l.line(0, 0, 0, 0));
        }
        due(STATE, () -> l.line(0, 0, 0, 0));
        due(STATE, () -> l.line(0, 7, 23, 23));
        due(INDEX, () -> l.line(1, 0, 0, 0));
        due(INDEX, () -> l.line(0, 7, 24, 0));
        due(ARGUMENT, () -> l.line(0, 10, 0, 0));
        due(23, () -> l.unline());
        due(23, () -> l.line(0, 0, 0, 0));
    }

    private static void unline() {
        promise = 25;
        Latticework l = atoms();
        due(STATE, () -> l.unline());
        l.line(0, 0, 0, 0);
        l.line(1, 0, 0, 0);
        due(1, () -> l.unline());
        due(INDEX, () -> l.isRight(1));
        due(1, () -> l.line(1, 8, 0, 0));
        due(false, () -> l.isRight(1));
        due(0, () -> l.given(1));
        due(1, () -> l.unline());
        due(0, () -> l.unline());
        due(STATE, () -> l.unline());
    }

    private static void rightIs(boolean want, Latticework l, int formula, int reason, int x, int y) {
        int line = l.line(formula, reason, x, y);
        due(want, () -> l.isRight(line));
        l.unline();
    }

    private static void isRight() {
        promise = 26;
        Latticework l = atoms();
        int not = l.formula(NOT, 0, 0);
        int and = l.formula(AND, 0, 1);
        int turnedAnd = l.formula(AND, 1, 0);
        int or = l.formula(OR, 0, 1);
        int turnedOr = l.formula(OR, 1, 0);
        int implies = l.formula(IMPLIES, 0, 1);
        int[] given = {0, 1, implies, not, and};
        for (int formula : given) {
            int line = l.line(formula, 0, 0, 0);
            due(true, () -> l.isRight(line));
        }
        rightIs(true, l, 1, 1, 0, 2);
        rightIs(false, l, 1, 1, 2, 0);
        rightIs(false, l, 0, 1, 0, 2);
        rightIs(false, l, 1, 1, 1, 2);
        rightIs(false, l, 1, 1, 0, 4);
        rightIs(true, l, and, 2, 0, 1);
        rightIs(false, l, and, 2, 1, 0);
        rightIs(true, l, turnedAnd, 2, 1, 0);
        rightIs(false, l, or, 2, 0, 1);
        rightIs(true, l, 0, 3, 4, 0);
        rightIs(false, l, 1, 3, 4, 0);
        rightIs(false, l, 0, 3, 2, 0);
        rightIs(true, l, 1, 4, 4, 0);
        rightIs(false, l, 0, 4, 4, 0);
        rightIs(false, l, 1, 4, 2, 0);
        rightIs(true, l, or, 5, 0, 0);
        rightIs(false, l, or, 5, 1, 0);
        rightIs(true, l, turnedOr, 5, 1, 0);
        rightIs(false, l, and, 5, 0, 0);
        rightIs(true, l, or, 6, 1, 0);
        rightIs(false, l, or, 6, 0, 0);
        rightIs(true, l, turnedOr, 6, 0, 0);
        rightIs(false, l, and, 6, 1, 0);
        rightIs(true, l, 5, 7, 0, 3);
        rightIs(false, l, 5, 7, 3, 0);
        rightIs(false, l, 5, 7, 1, 3);
        rightIs(false, l, 0, 8, 0, 0);
        rightIs(true, l, or, 9, 0, 0);
        rightIs(true, l, turnedAnd, 9, 4, 0);
        rightIs(false, l, and, 9, 0, 0);
        rightIs(false, l, 0, 9, 1, 0);
        // all LINES that it names must be RIGHT, too
        int wrongOne = l.line(0, 3, 1, 0);
        due(false, () -> l.isRight(wrongOne));
        rightIs(false, l, or, 5, wrongOne, 0);
        rightIs(false, l, and, 2, wrongOne, 1);
        rightIs(false, l, turnedAnd, 2, 1, wrongOne);
        rightIs(false, l, or, 9, wrongOne, 0);
        for (int odd : new int[] {wrongOne + 1, -1, LOW, HIGH}) {
            due(INDEX, () -> l.isRight(odd));
        }
    }

    private static void isRightByRules() {
        Latticework l = new Latticework();
        int same = equality(l, "x", "x");
        int likeX = equality(l, "2x", "x");
        int one = equality(l, "20", "1");
        int other = equality(l, "1", "0");
        l.line(same, 8, 0, 0);
        l.line(likeX, 8, 0, 0);
        l.line(one, 0, 0, 0);
        l.line(other, 9, 2, 0);
        due(true, () -> l.isRight(0));
        due(false, () -> l.isRight(1));
        due(false, () -> l.isRight(3));
        wait(l, "2x", "x");
        due(false, () -> l.isRight(1));
        l.complete(1);
        due(true, () -> l.isRight(1));
        due(true, () -> l.isRight(3));
        l.dropRule(0);
        due(false, () -> l.isRight(1));
        due(false, () -> l.isRight(3));
        rightIs(false, l, l.formula(ATOM, 0, 0), 8, 0, 0);
    }

    private static void given() {
        promise = 27;
        Latticework l = atoms();
        l.line(0, 0, 0, 0);
        l.line(1, 0, 0, 0);
        l.line(2, 8, 0, 0);
        l.line(3, 2, 0, 1);
        l.line(3, 2, 3, 0);
        l.line(3, 3, 1, 0);
        l.line(3, 7, 2, 2);
        l.line(3, 1, 5, 5);
        l.line(3, 9, 4, 1);
        l.line(0, 0, 7, 7);
        l.line(3, 2, 9, 8);
        int[] want = {1, 1, 0, 2, 2, 1, 0, 1, 2, 1, 3};
        for (int line = 0; line < want.length; line++) {
            int asked = line;
            due(want[line], () -> l.given(asked));
        }
        for (int odd : new int[] {want.length, -1, LOW, HIGH}) {
            due(INDEX, () -> l.given(odd));
        }
        Latticework all = atoms();
        for (int i = 0; i < 12; i++) {
            all.line(0, 0, 0, 0);
        }
        all.line(0, 1, 0, 1);
        for (int i = 2; i < 12; i++) {
            all.line(0, 1, 10 + i, i);
        }
        due(23, () -> all.line(0, 0, 0, 0));
        due(12, () -> all.given(22));
        due(1, () -> all.given(23));
    }

    private static void firstWrong() {
        promise = 28;
        Latticework l = atoms();
        int or = l.formula(OR, 0, 1);
        due(-1, () -> l.firstWrong());
        l.line(0, 0, 0, 0);
        l.line(or, 5, 0, 0);
        due(-1, () -> l.firstWrong());
        l.line(or, 6, 0, 0);
        l.line(1, 8, 0, 0);
        l.line(0, 0, 0, 0);
        due(2, () -> l.firstWrong());
        l.unline();
        l.unline();
        due(2, () -> l.firstWrong());
        l.unline();
        due(-1, () -> l.firstWrong());
        l.unline();
        l.unline();
        l.line(1, 8, 0, 0);
        due(0, () -> l.firstWrong());
        Latticework ruled = new Latticework();
        ruled.line(equality(ruled, "2x", "x"), 8, 0, 0);
        due(0, () -> ruled.firstWrong());
        wait(ruled, "2x", "x");
        ruled.complete(1);
        due(-1, () -> ruled.firstWrong());
    }

    // ---- what would be

    private static void rulesAfter() {
        promise = 29;
        Latticework l = new Latticework();
        for (int odd : new int[] {0, 4, -1, LOW, HIGH}) {
            due(ARGUMENT, () -> l.rulesAfter(odd));
        }
        due(0, () -> l.rulesAfter(3));
        wait(l, "40x", "x");
        wait(l, "0", "0");
        wait(l, "42xx", "0");
        wait(l, "44xyz", "4x4yz");
        int three = built(l, "40y");
        due(three, () -> l.normal(three));
        long before = l.digest();
        due(1, () -> l.rulesAfter(1));
        due(1, () -> l.rulesAfter(2));
        due(2, () -> l.rulesAfter(3));
        due("0 4 0 0 0", () -> counts(l));
        due(before, () -> l.digest());
        due(three, () -> l.normal(three));
        due(2, () -> l.complete(3));
        due(3, () -> l.rulesAfter(1));
        // one RULE takes others away
        Latticework fewer = ruled("32x", "x", "42xy", "y");
        wait(fewer, "2x", "x");
        due(1, () -> fewer.rulesAfter(1));
        due(3, () -> fewer.rulesAfter(3));
        // completing would stop, or has stopped
        Latticework full = eightRules();
        wait(full, "4xy", "0");
        due(8, () -> full.rulesAfter(3));
        due(0, () -> full.many(4));
        full.complete(1);
        full.dropRule(0);
        due(7, () -> full.rulesAfter(3));
        due("7 1 0 8 1", () -> counts(full));
    }

    private static void sizeWithout() {
        promise = 30;
        Latticework l = ruled("2x", "x", "3x", "x", "4xx", "0");
        int term = built(l, "42x3x");
        due(1, () -> l.ofTerm(l.normal(term), 0));
        due(4, () -> l.sizeWithout(0, term));
        due(4, () -> l.sizeWithout(1, term));
        due(3, () -> l.sizeWithout(2, term));
        due(1, () -> l.sizeWithout(2, built(l, "2y")));
        due("2x>x 3x>x 4xx>0", () -> rules(l));
        due(built(l, "0"), () -> l.normal(term));
        due(3, () -> l.steps(term));
        for (int odd : new int[] {3, -1, LOW, HIGH}) {
            due(INDEX, () -> l.sizeWithout(odd, 0));
        }
        for (int odd : new int[] {l.terms(), -1, LOW, HIGH}) {
            due(INDEX, () -> l.sizeWithout(0, odd));
        }
        due(INDEX, () -> ruled().sizeWithout(0, 0));
    }

    // what digest() says is put together here from the other calls, on an object of its own

    private static Latticework toDigest() {
        Latticework l = ruled("2x", "x", "43x0", "1", "5xy", "5yx");
        for (int atom = 0; atom < 6; atom++) {
            l.formula(ATOM, atom, 0);
        }
        int same = equality(l, "2z", "z");
        int and = l.formula(AND, 1, 2);
        int or = l.formula(OR, 0, 2);
        int implies = l.formula(IMPLIES, or, 0);
        l.formula(IMPLIES, and, 2);
        l.formula(NOT, 5, 0);
        l.formula(OR, implies, 3);
        l.formula(NOT, implies, 3);
        fill(l, 40);
        l.line(and, 0, 0, 0);
        l.line(2, 4, 0, 0);
        l.line(2, 3, 0, 0);
        l.line(same, 8, 0, 0);
        wait(l, "0", "1");
        return l;
    }

    private static long digestOf(Latticework l) {
        long d = 58092 * 31L + l.terms();
        for (int what = 0; what <= 4; what++) {
            d = d * 31 + l.many(what);
        }
        for (int rule = 0; rule < l.many(0); rule++) {
            for (int side = 0; side < 2; side++) {
                int term = l.rule(rule, side == 0);
                for (int place = 0; place < l.ofTerm(term, 0); place++) {
                    d = d * 31 + l.at(term, place);
                }
            }
        }
        for (int term = 0; term < Math.min(20, l.terms()); term++) {
            d = d * 31 + l.ofTerm(term, 0);
            d = d * 31 + l.steps(term);
            d = d * 31 + l.ofTerm(l.normal(term), 0);
        }
        for (int formula = 0; formula < Math.min(12, l.formulas()); formula++) {
            d = d * 31 + (l.isProved(formula) ? 1 : 0);
            for (int what = 0; what <= 2; what++) {
                d = d * 31 + l.proof(formula, what);
            }
        }
        return d;
    }

    private static void digest() {
        promise = 31;
        Latticework l = toDigest();
        long d = digestOf(toDigest());
        int[] ofLines = {1, 1, 1, 1, 0, 1, 1, 0};
        for (int value : ofLines) {
            d = d * 31 + value;
        }
        long want = d;
        due(want, () -> l.digest());
        due(want, () -> l.digest());
        due(40, () -> l.terms());
        // one VARIABLE alone: 1 TERM, no counts, its SIZE, no steps, SIZE 1
        Latticework one = new Latticework();
        one.variable(2);
        long first = 58092L * 31 + 1;
        long last = ((first * 31 * 31 * 31 * 31 * 31 * 31 + 1) * 31 + 0) * 31 + 1;
        due(last, () -> one.digest());
    }
}
