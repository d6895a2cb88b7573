import java.util.function.Supplier;

/** The sentences of the head and of section 1 TERMS that name a boundary, each with a test of its own. */
public final class TermBoundariesTest {

    private static final String[] ALL = {"0", "1", "20", "31", "401", "510"};

    private static void due(Object want, Supplier<?> call) {
        Sentences.due(want, call);
    }

    public static void main(String[] args) {
        Sentences.holds("What it is", "An object is used for at most 512 calls after it has been made",
                TermBoundariesTest::calls);
        Sentences.holds("Promise 1:", "Creates a workshop without TERMS.", TermBoundariesTest::newObject);
        Sentences.holds("Terms", "Signs: 0 and 1 are constants, 2 and 3 are of one TERM, 4 and 5 of two",
                TermBoundariesTest::signs);
        Sentences.holds("Promise 3:", "its first part (not looked at with 0 and 1)", () -> notLookedAt(0, 1, true));
        Sentences.holds("Promise 3:", "its second part (not looked at with 0 to 3)", () -> notLookedAt(0, 3, false));
        Sentences.holds("Terms", "there are VARIABLES 0 to 3", TermBoundariesTest::variables);
        Sentences.holds("Terms", "At most 60 TERMS are numbered, from 0", TermBoundariesTest::sixtyTerms);
        Sentences.holds("Terms", "each once, as they are built or told of (that TERM alone, its parts not)",
                TermBoundariesTest::toldOf);
        Sentences.holds("Terms", "two that are built alike are the same (so that one more of these is none)",
                TermBoundariesTest::builtAlike);
        Sentences.holds("Promise 4:", "Returns how many TERMS are numbered.", TermBoundariesTest::askingNumbersNone);
        Sentences.holds("Terms", "The SIZE is how many signs and VARIABLES it has, 12 at most.",
                TermBoundariesTest::sizes);
        Sentences.holds("Terms", "PLACES of a TERM are numbered from 0 from the outside on: the TERM itself, then"
                + " all PLACES of its first part, then those of its second one.", TermBoundariesTest::places);
        Sentences.holds("Promise 5:", "1 how many VARIABLES it has, each counted once",
                TermBoundariesTest::variablesCountedOnce);
        Sentences.holds("Terms", "if no VARIABLE is more often in t than in s", TermBoundariesTest::moreOften);
        Sentences.holds("Terms", "the SIZE of s is greater", TermBoundariesTest::greaterBySize);
        Sentences.holds("Terms", "or they are the same, both begin with signs, and that of s is greater",
                TermBoundariesTest::greaterBySign);
        Sentences.holds("Terms", "or that is the same, too, and of the first two parts that are not the same that"
                + " of s is GREATER.", TermBoundariesTest::greaterByParts);
        Sentences.holds("Promise 7:", "0 if neither", TermBoundariesTest::neitherGreater);
        Sentences.holds("Terms", "A TERM l FITS a TERM t, if it becomes t as for each of its VARIABLES a TERM is"
                + " put, the same one each time.", TermBoundariesTest::fits);
        Sentences.holds("Terms", "Two TERMS MEET (of any SIZE then)", TermBoundariesTest::meetOfAnySize);
        Sentences.holds("Terms", "with the VARIABLES of both taken as other ones, TERMS can be put for all of them,"
                + " no more than must be", TermBoundariesTest::meetOfOtherVariables);
        Sentences.holds("Terms", "(a VARIABLE in a TERM that would have to be put for itself, but is not it alone:"
                + " not so)", TermBoundariesTest::meetNotInItself);
        Sentences.end();
    }

    // ---- the head

    /** Full of everything but for two EQUATIONS that wait. */
    private static Bench full() {
        Bench b = new Bench().fillRules(8).fillTerms(60).fillFormulas(40).fillLines(23);
        b.line(7, 3, 0, 0);
        return b.waitIdly(2);
    }

    private static void calls() {
        Bench asked = new Bench();
        for (int i = 1; i < 512; i++) {
            asked.terms();
        }
        due(1, asked::callsLeft);
        due(0, () -> asked.variable(3));
        // the 512th call answers what an earlier one would have, whatever was refused in between
        long want = full().digest();
        Bench late = full();
        for (int i = 0; late.callsLeft() > 1; i++) {
            refusedByFull(late, i % 8);
        }
        due(want, late::digest);
        due(0, late::callsLeft);
        // .. and still changes what it says
        Bench changed = full();
        while (changed.callsLeft() > 2) {
            changed.digest();
        }
        due(8, () -> changed.complete(2));
        due(0, () -> changed.many(1));
        Bench last = full();
        while (last.callsLeft() > 1) {
            last.rulesAfter(3);
        }
        due(23, last::unline);
    }

    private static void refusedByFull(Bench b, int which) {
        due(which == 1 || which == 3 ? Sentences.ARGUMENT : which == 2 ? Sentences.INDEX : Sentences.STATE, () -> {
            switch (which) {
                case 0: return b.variable(0);
                case 1: return b.term(6, 0, 0);
                case 2: return b.dropRule(8);
                case 3: return b.complete(0);
                case 4: return b.formula(5, 0, 0);
                case 5: return b.line(0, 0, 0, 0);
                case 6: return b.term(3, 0, 0);
                default: return b.formula(2, 0, 0);
            }
        });
    }

    private static void newObject() {
        Bench b = new Bench();
        due(0, b::terms);
        due(0, b::formulas);
        due("0 0 0 0 0", b::counts);
        due(0.0, b::meanSize);
        due(-1, b::firstWrong);
        due(0, () -> b.complete(3));
        due(0, () -> b.rulesAfter(3));
        due("0 0 0 0 0", b::counts);
        due(58092L * 31 * 31 * 31 * 31 * 31 * 31, b::digest);
    }

    // ---- 1 TERMS

    private static void signs() {
        int[] sizes = {1, 1, 2, 2, 3, 3};
        for (int sign = 0; sign <= 5; sign++) {
            int asked = sign;
            Bench b = new Bench();
            int x = b.variable(0);
            int built = b.term(sign, x, x);
            due(1, () -> built);
            due(sizes[sign], () -> b.ofTerm(built, 0));
            due(sign, () -> b.at(built, 0));
            due(2, b::terms);
            due(built, () -> b.term(asked, x, x));
            due(2, b::terms);
        }
        for (int odd : new int[] {-1, 6, Sentences.LOW, Sentences.HIGH}) {
            Sentences.refused(Sentences.ARGUMENT, () -> new Bench().fillTerms(2), b -> b.term(odd, 0, 0));
        }
    }

    /** With these signs any part will do, with the others only one that is there. */
    private static void notLookedAt(int least, int most, boolean isFirst) {
        for (int sign = 0; sign <= 5; sign++) {
            int asked = sign;
            boolean isAny = sign >= least && sign <= most;
            Bench b = new Bench();
            int x = b.variable(0);
            int built = b.term(sign, x, x);
            for (int odd : new int[] {2, 60, -1, Sentences.LOW, Sentences.HIGH}) {
                due(isAny ? built : Sentences.INDEX, () -> b.term(asked, isFirst ? odd : x, isFirst ? x : odd));
            }
            due(2, b::terms);
        }
    }

    private static void variables() {
        Bench b = new Bench();
        for (int variable = 0; variable <= 3; variable++) {
            int asked = variable;
            due(variable, () -> b.variable(asked));
            due(10 + variable, () -> b.at(asked, 0));
        }
        for (int odd : new int[] {-1, 4, Sentences.LOW, Sentences.HIGH}) {
            Sentences.refused(Sentences.ARGUMENT, Bench::new, empty -> empty.variable(odd));
        }
    }

    private static Bench with(int terms) {
        return new Bench().fillTerms(terms);
    }

    private static void sixtyTerms() {
        due(0, () -> new Bench().term(1, 0, 0));
        due(0, () -> new Bench().variable(3));
        // of each sign one that fillTerms does not build
        int[][] more = {{1, -1, -1}, {2, 12, -1}, {3, 0, -1}, {4, 9, 0}, {5, 9, 0}};
        for (int[] one : more) {
            due(59, () -> with(59).term(one[0], one[1], one[2]));
            Sentences.refused(Sentences.STATE, () -> with(60), full -> full.term(one[0], one[1], one[2]));
        }
        due(59, () -> with(59).variable(0));
        Sentences.refused(Sentences.STATE, () -> with(60), full -> full.variable(0));
        Bench last = with(59);
        due(59, () -> last.variable(1));
        due(60, last::terms);
        due(11, () -> last.at(59, 0));
        due(Sentences.INDEX, () -> last.at(60, 0));
        due(Sentences.STATE, () -> last.variable(2));
    }

    /** Has the RULES 3x>x and 42x2x>0, with neither 42x2x nor 2x among its TERMS. */
    private static Bench told() {
        return new Bench().ruled("3x", "x", "423x23x", "0");
    }

    private static void toldOf() {
        // l of the RULE: 42x2x gets a number, its part 2x none; 2x, built afterwards, is a new one
        Bench ofRule = told();
        int before = ofRule.terms();
        due(before, () -> ofRule.rule(1, true));
        due(before + 1, ofRule::terms);
        due(before, () -> ofRule.rule(1, true));
        due(before + 1, ofRule::terms);
        due(before + 1, () -> ofRule.built("2x"));
        // r of the RULE
        Bench ofOther = new Bench().ruled("3x", "x", "523x23x", "423x23x");
        int beforeOther = ofOther.terms();
        due(beforeOther, () -> ofOther.rule(1, false));
        due("42x2x", () -> ofOther.text(beforeOther));
        due(beforeOther + 1, ofOther::terms);
        // a NORMAL TERM
        Bench ofNormal = new Bench().ruled("3x", "x");
        int term = ofNormal.built("523y23z");
        int beforeNormal = ofNormal.terms();
        due(beforeNormal, () -> ofNormal.normal(term));
        due("52y2z", () -> ofNormal.text(beforeNormal));
        due(beforeNormal, () -> ofNormal.normal(term));
        due(beforeNormal + 1, ofNormal::terms);
        due(beforeNormal + 1, () -> ofNormal.built("2y"));
    }

    private static void builtAlike() {
        for (String text : ALL) {
            Bench b = new Bench();
            int first = b.built(text);
            int terms = b.terms();
            due(first, () -> b.built(text));
            due(terms, b::terms);
        }
        // at 60, too
        Bench full = with(56);
        int x = full.variable(1);
        int two = full.term(2, x, 0);
        int four = full.term(4, x, two);
        int three = full.term(3, four, 0);
        due(60, full::terms);
        due(x, () -> full.variable(1));
        due(two, () -> full.term(2, x, 99));
        due(four, () -> full.term(4, x, two));
        due(three, () -> full.built("34x2x"));
        due(0, () -> full.term(0, 0, 0));
        due(60, full::terms);
        due(Sentences.STATE, () -> full.term(4, two, x));
        // told of at 60, but known
        Bench known = told();
        int l = known.built("42x2x");
        int r = known.built("0");
        int long5 = known.built("432x2x");
        known.fillTerms(60);
        due(l, () -> known.rule(1, true));
        due(r, () -> known.rule(1, false));
        due(r, () -> known.normal(long5));
        due(r, () -> known.normal(l));
        due(60, known::terms);
    }

    private static void askingNumbersNone() {
        for (int most : new int[] {20, 59, 60}) {
            Bench b = told();
            int term = b.built("532y32z");
            int other = b.built("53y32z");
            b.fillTerms(most);
            int same = b.formula(Bench.EQUALITY, term, other);
            b.line(same, 8, 0, 0);
            b.equation(term, other);
            due(1, () -> b.compare(term, other));
            due(false, () -> b.fits(term, other));
            due(7, () -> b.meet(term, other));
            due(2, () -> b.steps(term));
            due(false, () -> b.areEqual(term, other));
            due(7, () -> b.sizeWithout(0, term));
            due(0, () -> b.overlaps(0, 1));
            due(3, () -> b.rulesAfter(1));
            due(3, () -> b.complete(1));
            b.digest();
            due(true, () -> b.isProved(same));
            due(most, b::terms);
        }
    }

    private static void sizes() {
        Bench b = with(12);
        int[] chain = new int[13];
        for (int size = 1; size <= 12; size++) {
            int asked = size;
            chain[size] = size - 1;
            due(size, () -> b.ofTerm(asked - 1, 0));
        }
        // the sign, and what its parts have: 12 and no more
        int[][] twelve = {{2, 11, 0}, {3, 11, 0}, {4, 1, 10}, {4, 10, 1}, {4, 5, 6}, {5, 6, 5}, {5, 10, 1}, {5, 1, 10}};
        for (int[] parts : twelve) {
            int built = b.term(parts[0], chain[parts[1]], chain[parts[2]]);
            due(12, () -> b.ofTerm(built, 0));
        }
        int[][] thirteen = {{2, 12, 0}, {3, 12, 0}, {4, 1, 11}, {4, 11, 1}, {4, 6, 6}, {5, 6, 6}, {5, 11, 1}, {5, 1, 11},
            {4, 12, 12}, {5, 12, 12}, {4, 12, 1}, {5, 1, 12}};
        for (int[] parts : thirteen) {
            Sentences.refused(Sentences.ARGUMENT, () -> with(12),
                    short12 -> short12.term(parts[0], chain[parts[1]], chain[parts[2]]));
        }
        // VARIABLES count as signs do
        due(12, () -> b.ofTerm(b.built("244xy44zw4xy"), 0));
    }

    private static void places() {
        Bench b = new Bench();
        String[] texts = {"x", "0", "2w", "4yz", "45w2x30", "44xy4zw", Bench.chain('3', 11, "1"), "244xy45zw410"};
        for (String text : texts) {
            int term = b.built(text);
            for (int place = 0; place < text.length(); place++) {
                int asked = place;
                char c = text.charAt(place);
                due(c >= 'w' ? 10 + c - 'w' : c - '0', () -> b.at(term, asked));
            }
        }
        for (String text : new String[] {"x", "0", "2w", "45w2x30", Bench.chain('3', 11, "1")}) {
            for (int odd : new int[] {-1, text.length(), 12, 13, 15, 16, 32, Sentences.LOW, Sentences.HIGH}) {
                Supplier<Bench> start = () -> {
                    Bench one = new Bench();
                    one.built(text);
                    return one;
                };
                Sentences.refused(Sentences.INDEX, start, one -> one.at(one.built(text), odd));
            }
        }
    }

    private static void variablesCountedOnce() {
        Bench b = new Bench();
        due(0, () -> b.ofTerm(b.built("420401"), 1));
        due(1, () -> b.ofTerm(b.built("z"), 1));
        due(1, () -> b.ofTerm(b.built("44zz44zz4zz"), 1));
        due(2, () -> b.ofTerm(b.built("44wz44zw4zz"), 1));
        due(3, () -> b.ofTerm(b.built("44xz44zw4zz"), 1));
        due(4, () -> b.ofTerm(b.built("44xy44zw4xx"), 1));
    }

    private static void compared(int want, String one, String other) {
        for (int by = 0; by < 4; by++) {
            Bench b = new Bench();
            int first = b.built(Bench.turned(one, by));
            int second = b.built(Bench.turned(other, by));
            due(want, () -> b.compare(first, second));
            due(-want, () -> b.compare(second, first));
        }
    }

    private static void moreOften() {
        // each VARIABLE as often, and once more
        for (char v = 'w'; v <= 'z'; v++) {
            compared(1, "44" + v + "0" + v, "4" + v + v);
            compared(0, "44" + v + "0" + "0", "4" + v + v);
            compared(1, "2" + v, "" + v);
            compared(0, "220", "" + v);
        }
        // one of the VARIABLES only is too often, the first one or the last one
        compared(1, "24wz", "4wz");
        compared(0, "24wz", "4zz");
        compared(0, "24wz", "4ww");
        // with the same SIZE, too, and in the parts
        compared(1, "5xy", "4yx");
        compared(0, "5xx", "4xy");
        compared(0, "42xy", "4y2x");
        compared(1, "42xy", "4x2y");
    }

    private static void greaterBySize() {
        compared(1, "20", "1");
        compared(1, "220", "31");
        compared(1, Bench.chain('2', 11, "0"), Bench.chain('3', 10, "1"));
        compared(1, "4x0", "3x");
        compared(1, "2x", "1");
        compared(0, "20", "20");
    }

    private static void greaterBySign() {
        compared(1, "1", "0");
        compared(1, "3x", "2x");
        compared(1, "5xy", "4xy");
        // signs of other parts, with the same SIZE
        compared(1, "400", "320");
        compared(1, "4x0", "33x");
        // a VARIABLE is no sign, neither here nor there
        compared(0, "x", "0");
        compared(0, "x", "1");
        compared(0, "x", "y");
        compared(0, "x", "x");
    }

    private static void greaterByParts() {
        compared(1, "21", "20");
        compared(1, "401", "400");
        compared(1, "4x1", "4x0");
        compared(1, "44x1y", "44x0y");
        // of the first two that are not the same, whatever the second ones are
        compared(1, "4200", "4020");
        compared(1, "410", "401");
        compared(0, "4x1", "400");
        compared(0, "4xy", "4yx");
        // down to the last PLACE of the longest ones
        compared(1, Bench.chain('2', 11, "1"), Bench.chain('2', 11, "0"));
        compared(1, "244444000001", "244444000000");
        compared(1, "244444100000", "244444011111");
        compared(0, Bench.chain('2', 11, "x"), Bench.chain('2', 11, "x"));
        compared(0, Bench.chain('2', 11, "x"), Bench.chain('2', 11, "0"));
    }

    private static void neitherGreater() {
        compared(0, "0", "0");
        compared(0, "4x2y", "4y2x");
        compared(0, "222x", "4xx");
        compared(0, "4xx", "4yy");
        Bench b = new Bench();
        int term = b.built("44xy44zw4xx");
        due(0, () -> b.compare(term, term));
    }

    private static void fitting(boolean want, String one, String other) {
        for (int by = 0; by < 16; by++) {
            Bench b = new Bench();
            int first = b.built(Bench.turned(one, by % 4));
            int second = b.built(Bench.turned(other, by / 4));
            due(want, () -> b.fits(first, second));
        }
    }

    private static void fits() {
        // a VARIABLE alone fits all, a longer TERM none that is shorter
        for (String text : new String[] {"0", "z", "4xx", Bench.chain('2', 11, "1")}) {
            fitting(true, "x", text);
            fitting(true, text, text);
        }
        fitting(false, "2x", "x");
        fitting(false, "2x", "0");
        fitting(false, "0", "x");
        // the same one each time: twice, four times, the last one another
        fitting(true, "4xx", "422y22y");
        fitting(false, "4xx", "422y22z");
        fitting(true, "44xx4xx", "44202042020");
        fitting(false, "44xx4xx", "44202042021");
        fitting(true, "44wx4yz", "440142x3x");
        fitting(true, "44wx4yz", "4400400");
        fitting(false, "44wx4yw", "4400401");
        // what is put may hold the VARIABLE, here and there
        fitting(true, "4xy", "42y2x");
        fitting(false, "4x2x", "42x2x");
        fitting(true, "4x2x", "42x22x");
        fitting(true, Bench.chain('2', 11, "z"), Bench.chain('2', 11, "1"));
        fitting(true, Bench.chain('2', 10, "z"), Bench.chain('2', 11, "1"));
        fitting(false, Bench.chain('2', 11, "z"), Bench.chain('2', 10, "1"));
    }

    private static void met(int want, String one, String other) {
        for (int by = 0; by < 16; by++) {
            Bench b = new Bench();
            int first = b.built(Bench.turned(one, by % 4));
            int second = b.built(Bench.turned(other, by / 4));
            int terms = b.terms();
            due(want, () -> b.meet(first, second));
            due(want, () -> b.meet(second, first));
            due(terms, b::terms);
        }
    }

    private static void meetOfAnySize() {
        met(1, "0", "0");
        met(1, "x", "1");
        // the last one that a TERM could have, the first one that it could not, and more
        met(11, "4xx", "4y" + Bench.chain('2', 4, "0"));
        met(12, "24xx", "24y" + Bench.chain('2', 4, "0"));
        met(13, "4xx", "4y" + Bench.chain('2', 5, "0"));
        met(21, "4xx", "4y" + Bench.chain('2', 9, "0"));
        met(12, Bench.chain('2', 11, "0"), "x");
        // with w, x and y of the other one as a, b and c: b is 4aa (3), y is 4bb (7), c is 4yy (15)
        met(29, "5x54xx5y4yy", "5w5x54xxy");
    }

    private static void meetOfOtherVariables() {
        met(1, "x", "x");
        met(1, "x", "y");
        met(2, "x", "2x");
        met(12, "x", Bench.chain('2', 11, "x"));
        met(3, "4x0", "40x");
        met(3, "4xy", "4yx");
        met(6, "4x2x", "42xy");
        // no more than must be: VARIABLES stay VARIABLES, of SIZE 1
        met(7, "44wx4yz", "44zy4xw");
        met(3, "4xy", "4zz");
        met(-1, "4xx", "401");
        met(3, "4xx", "4z1");
        met(-1, "44xxx", "44w01");
        // what is behind a part that is the same already is looked at, too
        met(-1, "54xx0", "54yy1");
        met(5, "54xx0", "54yy0");
        met(-1, "54xx4x0", "54yy4y" + "20");
    }

    private static void meetNotInItself() {
        met(-1, "4xx", "4y2y");
        met(-1, "4xx", "4y4yz");
        // by way of another one
        met(-1, "54xy4yx", "54z2z4z2z");
        met(-1, "44xyx", "44z2x2z");
        met(-1, "44xy4yx", "44z2w4w2z");
        // it alone: so
        met(3, "4xx", "4yy");
        met(3, "4xx", "4yz");
        met(5, "44xxx", "44yzy");
        met(7, "44xx4xx", "44yz4zy");
        // one after the other, on one object
        Bench b = new Bench();
        String[] ones = {"5x54xx5y4yy", "54xy4yx", "x", "4xx", "4xx", "44xyx"};
        String[] others = {"5w5x54xxy", "54z2z4z2z", "x", "4y2y", "4y20", "44z2x2z"};
        int[] due = {29, -1, 1, -1, 5, -1};
        for (int turn = 0; turn < 3; turn++) {
            for (int i = 0; i < ones.length; i++) {
                int first = b.built(ones[i]);
                int second = b.built(others[i]);
                due(due[i], () -> b.meet(first, second));
            }
        }
    }
}
