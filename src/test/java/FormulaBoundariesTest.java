import java.util.function.Supplier;

/** The sentences of section 3 FORMULAS, and of the calls on them, that name a boundary. */
public final class FormulaBoundariesTest {

    private static final String THIRTY = "3333322222" + "0";
    private static final String THIRTY_ONE = "33333222223" + "0";

    private static void due(Object want, Supplier<?> call) {
        Sentences.due(want, call);
    }

    public static void main(String[] args) {
        Sentences.holds("Terms", "3 FORMULAS. At most 40, numbered from 0", FormulaBoundariesTest::fortyFormulas);
        Sentences.holds("Terms", "numbered from 0, each once, as they are built", FormulaBoundariesTest::eachOnce);
        Sentences.holds("Terms", "with at most 6 of the kinds 2 to 5 in each, counted as often as they stand there",
                FormulaBoundariesTest::sixOfTheKinds);
        Sentences.holds("Terms", "0 an ATOM, 0 to 5", FormulaBoundariesTest::atoms);
        Sentences.holds("Terms", "1 an EQUALITY of two TERMS; 2 NOT a; 3 a AND b; 4 a OR b; 5 a IMPLIES b.",
                FormulaBoundariesTest::kinds);
        Sentences.holds("Promise 20:", "(not looked at with 0 and 2)", FormulaBoundariesTest::notLookedAt);
        Sentences.holds("Terms", "In SEQUENTS EQUALITIES are the same ATOM, if their sides come to the same NORMAL"
                + " TERMS (either way round)", FormulaBoundariesTest::sameEqualities);
        Sentences.holds("Terms", "one with the same NORMAL TERM on both sides is TRUE.",
                FormulaBoundariesTest::trueEqualities);
        Sentences.holds("Terms", "It is CLOSED, if an ATOM (or EQUALITY) on the left is the same as one on the right,"
                + " or one on the right is TRUE.", FormulaBoundariesTest::closed);
        Sentences.holds("Terms", "the first FORMULA on the left that is no ATOM, nor EQUALITY, or, if there is none,"
                + " the first such one on the right is taken apart: it goes, and what comes of it is put at the ends",
                FormulaBoundariesTest::firstTakenApart);
        Sentences.holds("Terms", "NOT a: a on the other side; on the left a AND b: both on the left; a OR b: one"
                + " SEQUENT with a on the left, then one with b; a IMPLIES b: one with a on the right, then one with b"
                + " on the left", FormulaBoundariesTest::apartOnTheLeft);
        Sentences.holds("Terms", "on the right a OR b: both on the right; a AND b: one with a on the right, then one"
                + " with b; a IMPLIES b: a on the left, b on the right.", FormulaBoundariesTest::apartOnTheRight);
        Sentences.holds("Terms", "If there is nothing to be taken apart, it is OPEN.", FormulaBoundariesTest::open);
        Sentences.holds("Terms", "with it alone on the right, all SEQUENTS that come in the end are CLOSED",
                FormulaBoundariesTest::mostSequents);
        Sentences.holds("Terms", "(of two the first one, with all that comes of it, ahead of the second one; those"
                + " behind an OPEN one are not looked at)", FormulaBoundariesTest::behindAnOpenOne);
        Sentences.holds("Promise 21:", "Returns how many FORMULAS there are.", FormulaBoundariesTest::formulas);
        Sentences.holds("Promise 23:", "2 the set of ATOMS (the sum of 2^k for each ATOM k, EQUALITIES aside) on the"
                + " left of the SEQUENT that is OPEN; -1 without one", FormulaBoundariesTest::atomsOnTheLeft);
        Sentences.end();
    }

    // ---- building

    /** With 7 TERMS, the ATOM 0 and EQUALITIES till there are as many FORMULAS. */
    private static Bench equalities(int most) {
        Bench b = new Bench().fillTerms(7);
        b.formula(Bench.ATOM, 0, 0);
        for (int i = 0; i + 1 < most; i++) {
            b.formula(Bench.EQUALITY, i / 7, i % 7);
        }
        return b;
    }

    private static void fortyFormulas() {
        due(0, () -> new Bench().formula(Bench.ATOM, 5, 0));
        due(40, () -> equalities(40).formulas());
        int[][] more = {{Bench.ATOM, 5, 0}, {Bench.EQUALITY, 6, 6}, {Bench.NOT, 0, 0}, {Bench.AND, 0, 38},
            {Bench.OR, 38, 0}, {Bench.IMPLIES, 38, 38}};
        for (int[] one : more) {
            due(39, () -> equalities(39).formula(one[0], one[1], one[2]));
            due(38, () -> new Bench().fillTerms(7).fillFormulas(38).equality("0", "20"));
            Sentences.refused(Sentences.STATE, () -> equalities(40), b -> b.formula(one[0], one[1], one[2]));
        }
        Bench last = equalities(39);
        due(39, () -> last.formula(Bench.NOT, 38, 0));
        due(1, () -> last.proof(39, 0));
        due(Sentences.INDEX, () -> last.proof(40, 0));
        due(Sentences.STATE, () -> last.formula(Bench.NOT, 39, 0));
    }

    private static void eachOnce() {
        Bench b = equalities(34);
        int[][] ones = {{Bench.ATOM, 1, 0}, {Bench.EQUALITY, 6, 5}, {Bench.NOT, 0, 0}, {Bench.AND, 0, 1},
            {Bench.OR, 0, 1}, {Bench.IMPLIES, 0, 1}};
        for (int i = 0; i < ones.length; i++) {
            int number = 34 + i;
            int[] one = ones[i];
            due(number, () -> b.formula(one[0], one[1], one[2]));
        }
        due(40, b::formulas);
        // at 40 those that are there still have their numbers, and what is not looked at changes nothing
        for (int i = 0; i < ones.length; i++) {
            int number = 34 + i;
            int[] one = ones[i];
            due(number, () -> b.formula(one[0], one[1], one[2]));
            boolean isOfOne = one[0] == Bench.ATOM || one[0] == Bench.NOT;
            due(isOfOne ? number : Sentences.INDEX, () -> b.formula(one[0], one[1], 77));
        }
        due(0, () -> b.formula(Bench.ATOM, 0, 0));
        due(1, () -> b.formula(Bench.EQUALITY, 0, 0));
        due(40, b::formulas);
        // turned round they are others
        due(Sentences.STATE, () -> b.formula(Bench.AND, 1, 0));
        due(Sentences.STATE, () -> b.formula(Bench.EQUALITY, 6, 6));
    }

    /** FORMULA k is ATOM 0 behind k NOTs, to 6. */
    private static Bench nots() {
        Bench b = new Bench();
        b.formula(Bench.ATOM, 0, 0);
        for (int i = 0; i < 6; i++) {
            b.formula(Bench.NOT, i, 0);
        }
        return b;
    }

    private static void sixOfTheKinds() {
        due(7, () -> nots().formulas());
        due(6, () -> nots().proof(6, 0));
        Sentences.refused(Sentences.ARGUMENT, FormulaBoundariesTest::nots, b -> b.formula(Bench.NOT, 6, 0));
        for (int kind = Bench.AND; kind <= Bench.IMPLIES; kind++) {
            for (int one = 0; one <= 6; one++) {
                for (int other = 0; other <= 6; other++) {
                    int[] asked = {kind, one, other};
                    if (one + other + 1 <= 6) {
                        due(7, () -> nots().formula(asked[0], asked[1], asked[2]));
                    } else {
                        Sentences.refused(Sentences.ARGUMENT, FormulaBoundariesTest::nots,
                                b -> b.formula(asked[0], asked[1], asked[2]));
                    }
                }
            }
        }
        // ATOMS and EQUALITIES count nothing: 6 ANDs of 7 of them
        Bench b = new Bench();
        int e = b.equality("0", "0");
        int and = e;
        for (int i = 0; i < 6; i++) {
            and = b.formula(Bench.AND, e, and);
        }
        int six = and;
        due(7, b::formulas);
        due(Sentences.ARGUMENT, () -> b.formula(Bench.NOT, six, 0));
    }

    private static void atoms() {
        for (int atom = 0; atom <= 5; atom++) {
            int asked = atom;
            due(0, () -> new Bench().formula(Bench.ATOM, asked, 99));
        }
        due(5, () -> new Bench().atoms().formula(Bench.ATOM, 5, -1));
        for (int odd : new int[] {-1, 6, Sentences.LOW, Sentences.HIGH}) {
            Sentences.refused(Sentences.ARGUMENT, Bench::new, b -> b.formula(Bench.ATOM, odd, 0));
        }
        // the set of each alone
        for (int atom = 0; atom <= 5; atom++) {
            Bench b = new Bench();
            int not = b.formula(Bench.NOT, b.formula(Bench.ATOM, atom, 0), 0);
            due(1 << atom, () -> b.proof(not, 2));
        }
    }

    private static void kinds() {
        for (int odd : new int[] {-1, 6, Sentences.LOW, Sentences.HIGH}) {
            Sentences.refused(Sentences.ARGUMENT, () -> new Bench().atoms(), b -> b.formula(odd, 0, 0));
            Sentences.refused(Sentences.ARGUMENT, Bench::new, b -> b.formula(odd, 99, -99));
        }
        // an EQUALITY asks for TERMS, the others for FORMULAS
        Bench terms = new Bench().fillTerms(2);
        due(0, () -> terms.formula(Bench.EQUALITY, 1, 1));
        due(Sentences.INDEX, () -> terms.formula(Bench.AND, 0, 1));
        due(Sentences.INDEX, () -> terms.formula(Bench.NOT, 1, 0));
        Bench formulas = new Bench().atoms();
        due(Sentences.INDEX, () -> formulas.formula(Bench.EQUALITY, 0, 0));
        due(6, () -> formulas.formula(Bench.NOT, 5, 99));
        due(7, () -> formulas.formula(Bench.AND, 5, 6));
        due(8, () -> formulas.formula(Bench.OR, 7, 0));
        due(9, () -> formulas.formula(Bench.IMPLIES, 8, 0));
    }

    private static void notLookedAt() {
        for (int kind = Bench.ATOM; kind <= Bench.IMPLIES; kind++) {
            int asked = kind;
            boolean isAny = kind == Bench.ATOM || kind == Bench.NOT;
            Bench b = new Bench().fillTerms(3).atoms();
            int built = b.formula(kind, 0, 0);
            int formulas = b.formulas();
            for (int odd : new int[] {60, 40, formulas, -1, Sentences.LOW, Sentences.HIGH}) {
                due(isAny ? built : Sentences.INDEX, () -> b.formula(asked, 0, odd));
            }
            due(formulas, b::formulas);
        }
    }

    // ---- SEQUENTS

    private static boolean implied(Bench b, int one, int other) {
        return b.isProved(b.formula(Bench.IMPLIES, one, other));
    }

    private static void sameEqualities() {
        Bench b = new Bench();
        int one = b.equality("30", "1");
        int same = b.equality("0", "31");
        int turned = b.equality("331", "30");
        int other = b.equality("30", "20");
        int half = b.equality("30", "2x");
        // without a RULE each is the same as itself, and as itself turned round
        due(true, () -> implied(b, one, one));
        due(true, () -> implied(b, one, b.equality("1", "30")));
        due(false, () -> implied(b, one, same));
        due(false, () -> implied(b, one, turned));
        b.ruled("3x", "x");
        due(true, () -> implied(b, one, same));
        due(true, () -> implied(b, one, turned));
        due(true, () -> implied(b, turned, same));
        // one side alone is not enough, this way round or that
        due(false, () -> implied(b, one, other));
        due(false, () -> implied(b, other, one));
        due(false, () -> implied(b, other, half));
        // no ATOM is one
        int atom = b.formula(Bench.ATOM, 0, 0);
        due(false, () -> implied(b, atom, one));
        due(false, () -> implied(b, one, atom));
        // as far as 30 times go
        Bench often = new Bench().ruled("32x", "23x", "30", "0");
        int end = often.equality("222220", "1");
        int most = often.equality("1", THIRTY);
        int more = often.equality(THIRTY_ONE, "1");
        due(true, () -> implied(often, most, end));
        due(false, () -> implied(often, more, end));
        due(true, () -> implied(often, more, more));
        // two whose sides are turned, and both the same NORMAL TERM: TRUE on the right
        due(true, () -> implied(often, more, often.equality("30", "0")));
    }

    private static void trueEqualities() {
        Bench b = new Bench();
        int same = b.equality("2x", "2x");
        int like = b.equality("32x", "2x");
        int other = b.equality("2x", "2y");
        due(true, () -> b.isProved(same));
        due(0, () -> b.proof(same, 0));
        due(1, () -> b.proof(same, 1));
        due(false, () -> b.isProved(like));
        b.ruled("3x", "x");
        due(true, () -> b.isProved(like));
        due(false, () -> b.isProved(other));
        b.dropRule(0);
        due(false, () -> b.isProved(like));
        // whichever call asks first
        for (int call = 0; call < 3; call++) {
            Bench fresh = new Bench();
            int not = fresh.equality("3x", "x");
            fresh.line(not, 8, 0, 0);
            firstAsked(fresh, not, call, false);
            fresh.ruled("3x", "x");
            firstAsked(fresh, not, call, true);
            fresh.dropRule(0);
            firstAsked(fresh, not, call, false);
        }
        Bench often = new Bench().ruled("32x", "23x", "30", "0");
        due(true, () -> often.isProved(often.equality(THIRTY, "222220")));
        due(false, () -> often.isProved(often.equality(THIRTY_ONE, "222220")));
        due(true, () -> often.isProved(often.equality(THIRTY_ONE, THIRTY_ONE)));
    }

    private static void firstAsked(Bench b, int equality, int call, boolean isTrue) {
        switch (call) {
            case 0:
                due(isTrue ? 1 : 0, () -> b.proof(equality, 1));
                break;
            case 1:
                due(isTrue ? -1 : 0, b::firstWrong);
                break;
            default:
                due(isTrue, () -> b.isRight(0));
                break;
        }
        due(isTrue, () -> b.isProved(equality));
    }

    private static void proofIs(Bench b, int formula, int apart, int closed, int open) {
        due(apart, () -> b.proof(formula, 0));
        due(closed, () -> b.proof(formula, 1));
        due(open, () -> b.proof(formula, 2));
        due(open == -1, () -> b.isProved(formula));
    }

    private static void closed() {
        Bench b = new Bench().atoms();
        int same = b.equality("0", "0");
        // before anything is taken apart
        int and = b.formula(Bench.AND, 1, 2);
        proofIs(b, b.formula(Bench.IMPLIES, and, same), 1, 1, -1);
        proofIs(b, b.formula(Bench.OR, and, same), 1, 1, -1);
        // nothing on the left: only TRUE closes; what is TRUE on the left does not
        proofIs(b, 0, 0, 0, 0);
        proofIs(b, same, 0, 1, -1);
        proofIs(b, b.formula(Bench.NOT, same, 0), 1, 0, 0);
        proofIs(b, b.formula(Bench.IMPLIES, same, 3), 1, 0, 0);
        // nothing on the right
        proofIs(b, b.formula(Bench.NOT, 3, 0), 1, 0, 8);
        // the same FORMULA on both sides closes only where it is an ATOM or EQUALITY
        proofIs(b, b.formula(Bench.IMPLIES, 3, 3), 1, 1, -1);
        proofIs(b, b.formula(Bench.IMPLIES, same, same), 1, 1, -1);
        proofIs(b, b.formula(Bench.IMPLIES, and, and), 3, 2, -1);
        int or = b.formula(Bench.OR, 1, 2);
        proofIs(b, b.formula(Bench.IMPLIES, or, or), 4, 2, -1);
    }

    private static void firstTakenApart() {
        Bench b = new Bench().atoms();
        int and = b.formula(Bench.AND, 1, 2);
        int or = b.formula(Bench.OR, 1, 2);
        // the left one ahead of the right one: the OR on the left splits, and 1 is OPEN as the AND is split
        proofIs(b, b.formula(Bench.IMPLIES, or, and), 3, 1, 2);
        // of two on the left the first one; the OR that comes of it stands behind the other one, which closes
        int two = b.formula(Bench.AND, b.formula(Bench.AND, 3, or), b.formula(Bench.AND, 4, 5));
        proofIs(b, b.formula(Bench.IMPLIES, two, 4), 4, 1, -1);
        proofIs(b, b.formula(Bench.IMPLIES, two, 0), 5, 0, 2 + 8 + 16 + 32);
        // ATOMS ahead of it are passed over
        int late = b.formula(Bench.AND, 3, b.formula(Bench.AND, 4, or));
        proofIs(b, b.formula(Bench.IMPLIES, late, 1), 4, 1, 4 + 8 + 16);
        // of two on the right the first one, in the same way
        proofIs(b, b.formula(Bench.OR, and, b.formula(Bench.NOT, 1, 0)), 4, 1, 2);
        int closing = b.formula(Bench.OR, 3, b.equality("0", "0"));
        proofIs(b, b.formula(Bench.OR, b.formula(Bench.OR, 0, and), closing), 3, 1, -1);
        proofIs(b, b.formula(Bench.OR, closing, b.formula(Bench.OR, 0, and)), 2, 1, -1);
    }

    private static void apartOnTheLeft() {
        Bench b = new Bench().atoms();
        int not = b.formula(Bench.NOT, 0, 0);
        proofIs(b, b.formula(Bench.IMPLIES, not, 1), 2, 0, 0);
        proofIs(b, b.formula(Bench.IMPLIES, b.formula(Bench.NOT, not, 0), 0), 3, 1, -1);
        proofIs(b, b.formula(Bench.IMPLIES, b.formula(Bench.AND, 0, 1), 2), 2, 0, 1 + 2);
        proofIs(b, b.formula(Bench.IMPLIES, b.formula(Bench.AND, 0, 1), 1), 2, 1, -1);
        proofIs(b, b.formula(Bench.IMPLIES, b.formula(Bench.OR, 0, 1), 0), 2, 1, 2);
        proofIs(b, b.formula(Bench.IMPLIES, b.formula(Bench.OR, 0, 1), 1), 2, 0, 1);
        int implies = b.formula(Bench.IMPLIES, 0, 1);
        proofIs(b, b.formula(Bench.IMPLIES, implies, 2), 2, 0, 0);
        proofIs(b, b.formula(Bench.IMPLIES, b.formula(Bench.AND, 0, implies), 2), 3, 1, 1 + 2);
        proofIs(b, b.formula(Bench.IMPLIES, b.formula(Bench.AND, 0, implies), 1), 3, 2, -1);
    }

    private static void apartOnTheRight() {
        Bench b = new Bench().atoms();
        int not = b.formula(Bench.NOT, 0, 0);
        proofIs(b, not, 1, 0, 1);
        proofIs(b, b.formula(Bench.OR, 0, not), 2, 1, -1);
        proofIs(b, b.formula(Bench.OR, 0, 1), 1, 0, 0);
        proofIs(b, b.formula(Bench.IMPLIES, 1, b.formula(Bench.OR, 0, 1)), 2, 1, -1);
        proofIs(b, b.formula(Bench.AND, 0, 1), 1, 0, 0);
        proofIs(b, b.formula(Bench.IMPLIES, 0, b.formula(Bench.AND, 0, 1)), 2, 1, 1);
        proofIs(b, b.formula(Bench.IMPLIES, 1, b.formula(Bench.AND, 0, 1)), 2, 0, 2);
        proofIs(b, b.formula(Bench.IMPLIES, 0, 1), 1, 0, 1);
        proofIs(b, b.formula(Bench.IMPLIES, 0, b.formula(Bench.IMPLIES, 1, 0)), 2, 1, -1);
    }

    private static void open() {
        Bench b = new Bench().atoms();
        int other = b.equality("0", "1");
        for (int formula = 0; formula <= 6; formula++) {
            proofIs(b, formula, 0, 0, 0);
        }
        proofIs(b, b.formula(Bench.IMPLIES, 5, other), 1, 0, 32);
        proofIs(b, b.formula(Bench.IMPLIES, other, 5), 1, 0, 0);
        proofIs(b, b.formula(Bench.OR, 4, 5), 1, 0, 0);
    }

    private static int nested(Bench b, int kind, int times, int one, int last) {
        int formula = one;
        for (int i = 1; i < times; i++) {
            formula = b.formula(kind, formula, one);
        }
        return b.formula(kind, formula, last);
    }

    private static void mostSequents() {
        // 6 ANDs of what is TRUE: 7 SEQUENTS, all CLOSED; with the last one OPEN 6 of them
        Bench b = new Bench().atoms();
        int same = b.equality("0", "0");
        proofIs(b, nested(b, Bench.AND, 6, same, same), 6, 7, -1);
        proofIs(b, nested(b, Bench.AND, 6, same, 0), 6, 6, 0);
        // 5 ORs on the left
        proofIs(b, b.formula(Bench.IMPLIES, nested(b, Bench.OR, 5, 0, 0), 0), 6, 6, -1);
        proofIs(b, b.formula(Bench.IMPLIES, nested(b, Bench.OR, 5, 0, 1), 0), 6, 5, 2);
        // 6 IMPLIES: what the last one leaves on the left, or an EQUALITY that is not TRUE
        int implies = b.formula(Bench.IMPLIES, 5, 5);
        for (int i = 0; i < 5; i++) {
            implies = b.formula(Bench.IMPLIES, i, implies);
        }
        proofIs(b, implies, 6, 1, -1);
        int open = b.formula(Bench.IMPLIES, 5, b.equality("0", "1"));
        for (int i = 0; i < 5; i++) {
            open = b.formula(Bench.IMPLIES, i, open);
        }
        proofIs(b, open, 6, 0, 63);
        // 6 NOTs
        proofIs(nots(), 6, 6, 0, 0);
        proofIs(nots(), 5, 5, 0, 1);
    }

    private static void behindAnOpenOne() {
        Bench b = new Bench().atoms();
        // (0 OR 1) OR 2: 0, then 1, then 2
        int left = b.formula(Bench.OR, b.formula(Bench.OR, 0, 1), 2);
        proofIs(b, b.formula(Bench.IMPLIES, left, 3), 3, 0, 1);
        proofIs(b, b.formula(Bench.IMPLIES, left, 0), 3, 1, 2);
        proofIs(b, b.formula(Bench.IMPLIES, left, b.formula(Bench.OR, 0, 1)), 6, 2, 4);
        // 0 OR (1 OR 2): the second one is taken apart only when the first one is CLOSED
        int right = b.formula(Bench.OR, 0, b.formula(Bench.OR, 1, 2));
        proofIs(b, b.formula(Bench.IMPLIES, right, 3), 2, 0, 1);
        proofIs(b, b.formula(Bench.IMPLIES, right, 0), 3, 1, 2);
        // (0 AND 1) AND 2 on the right, behind 0 and 2 on the left: 2 is not looked at
        int and = b.formula(Bench.AND, b.formula(Bench.AND, 0, 1), 2);
        proofIs(b, b.formula(Bench.IMPLIES, b.formula(Bench.AND, 0, 2), and), 4, 1, 1 + 4);
    }

    private static void formulas() {
        Bench b = new Bench();
        due(0, b::formulas);
        b.fillFormulas(39);
        due(39, b::formulas);
        b.formula(Bench.IMPLIES, 0, 0);
        due(40, b::formulas);
        due(Sentences.STATE, () -> b.formula(Bench.IMPLIES, 0, 1));
        due(40, b::formulas);
        // proving, and LINES, make none
        Bench asked = new Bench().fillFormulas(12);
        asked.isProved(11);
        asked.proof(11, 2);
        asked.line(11, 0, 0, 0);
        asked.digest();
        due(12, asked::formulas);
    }

    private static void atomsOnTheLeft() {
        Bench b = new Bench().atoms();
        int other = b.equality("0", "1");
        // none, all six, and EQUALITIES aside
        proofIs(b, b.formula(Bench.NOT, other, 0), 1, 0, 0);
        int and = b.formula(Bench.AND, 0, 1);
        for (int atom = 2; atom <= 5; atom++) {
            and = b.formula(Bench.AND, and, atom);
        }
        proofIs(b, b.formula(Bench.NOT, and, 0), 6, 0, 63);
        proofIs(b, b.formula(Bench.IMPLIES, and, other), 6, 0, 63);
        // one that stands there twice is counted once
        proofIs(b, b.formula(Bench.NOT, b.formula(Bench.AND, 3, 3), 0), 2, 0, 8);
        // on the left alone
        proofIs(b, b.formula(Bench.IMPLIES, b.formula(Bench.AND, 1, other), 2), 2, 0, 2);
        // without an OPEN one
        proofIs(b, b.formula(Bench.IMPLIES, 0, 0), 1, 1, -1);
        for (int odd : new int[] {-1, 3, Sentences.LOW, Sentences.HIGH}) {
            due(Sentences.ARGUMENT, () -> b.proof(0, odd));
        }
    }
}
