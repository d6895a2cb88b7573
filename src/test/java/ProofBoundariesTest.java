import java.math.BigInteger;
import java.util.function.Supplier;

/** The sentences of section 4 A PROOF, of the calls on it, and of the checksum, that name a boundary. */
public final class ProofBoundariesTest {

    private static final int MOST_LINES = 24;

    private static void due(Object want, Supplier<?> call) {
        Sentences.due(want, call);
    }

    public static void main(String[] args) {
        Sentences.holds("Terms", "4 A PROOF has at most 24 LINES, numbered from 0", ProofBoundariesTest::mostLines);
        Sentences.holds("Terms", "each with a FORMULA and a REASON, which names earlier LINES",
                ProofBoundariesTest::earlierLines);
        Sentences.holds("Promise 24:", "the LINE x (not looked at with 0 and 8)", () -> notLookedAt(true));
        Sentences.holds("Promise 24:", "the LINE y (not looked at but with 1, 2 and 7)", () -> notLookedAt(false));
        Sentences.holds("Terms", "(x is a: its FORMULA has the same number)", ProofBoundariesTest::sameNumber);
        Sentences.holds("Terms", "0 it is GIVEN;", ProofBoundariesTest::byGiven);
        Sentences.holds("Terms", "1 by x and y: x is a, y is a IMPLIES this;", ProofBoundariesTest::byImplication);
        Sentences.holds("Terms", "2 by x and y: this is a AND b, x is a, y is b;", ProofBoundariesTest::byBoth);
        Sentences.holds("Terms", "3 by x: x is this AND b; 4 by x: x is a AND this;", ProofBoundariesTest::byPartOfAnd);
        Sentences.holds("Terms", "5 by x: this is x OR b; 6 by x: this is a OR x;", ProofBoundariesTest::byPartOfOr);
        Sentences.holds("Terms", "7 by x and y: x is a, y is NOT a;", ProofBoundariesTest::byContradiction);
        Sentences.holds("Terms", "8 it is an EQUALITY that is TRUE;", ProofBoundariesTest::byTruth);
        Sentences.holds("Terms", "9 by x: the SEQUENT with the FORMULA of x on the left and this on the right is"
                + " proved.", ProofBoundariesTest::bySequent);
        Sentences.holds("Terms", "A LINE is RIGHT, if its REASON holds, and all LINES that it names are RIGHT.",
                ProofBoundariesTest::allNamedAreRight);
        Sentences.holds("Promise 25:", "Takes the last LINE away.", ProofBoundariesTest::lastLineAway);
        Sentences.holds("Promise 26:", "Returns whether it is RIGHT, by the RULES as they are now.",
                ProofBoundariesTest::byRulesAsTheyAre);
        Sentences.holds("Promise 27:", "Returns on how many LINES that are GIVEN it stands, through all that it names,"
                + " itself, too, each counted once.", ProofBoundariesTest::givenOnce);
        Sentences.holds("Promise 28:", "Returns the first LINE that is not RIGHT; -1 without one.",
                ProofBoundariesTest::firstWrong);
        Sentences.holds("Terms", "---- what would be (nothing is changed)", ProofBoundariesTest::nothingIsChanged);
        Sentences.holds("Promise 31:", "A number d starts with 58092; for each of the following numbers v, d becomes"
                + " d * 31 + v, which wraps around as a 64-bit integer", ProofBoundariesTest::digestWraps);
        Sentences.holds("Promise 31:", "for each RULE the sign or VARIABLE (as with at()) at each PLACE of l, then of"
                + " r", ProofBoundariesTest::digestOfRules);
        Sentences.holds("Promise 31:", "for each of the first 20 TERMS (or all) its SIZE, steps(), and the SIZE of its"
                + " NORMAL TERM", ProofBoundariesTest::digestOfTerms);
        Sentences.holds("Promise 31:", "for each of the first 12 FORMULAS (or all) 1 if it is PROVED, otherwise 0,"
                + " proof() of 0 to 2", ProofBoundariesTest::digestOfFormulas);
        Sentences.holds("Promise 31:", "for each LINE 1 if it is RIGHT, otherwise 0, given()",
                ProofBoundariesTest::digestOfLines);
        Sentences.end();
    }

    // ---- LINES

    private static Bench lines(int count) {
        return new Bench().atoms().fillLines(count);
    }

    private static void mostLines() {
        for (int line = 0; line < MOST_LINES; line++) {
            int asked = line;
            due(asked, () -> lines(asked).line(0, 0, 0, 0));
        }
        for (int reason = 0; reason <= 9; reason++) {
            int asked = reason;
            due(23, () -> lines(23).line(5, asked, 22, 0));
            Sentences.refused(Sentences.STATE, () -> lines(24), b -> b.line(5, asked, 23, 0));
        }
        // none without one taken away
        Bench b = lines(24);
        due(Sentences.STATE, () -> b.line(0, 0, 0, 0));
        due(23, b::unline);
        due(23, () -> b.line(0, 0, 0, 0));
        due(Sentences.STATE, () -> b.line(0, 0, 0, 0));
    }

    private static int namedBy(int reason) {
        return reason == 0 || reason == 8 ? 0 : reason == 1 || reason == 2 || reason == 7 ? 2 : 1;
    }

    private static void earlierLines() {
        for (int reason = 0; reason <= 9; reason++) {
            int asked = reason;
            for (int count : new int[] {0, 1, 7, 23, 24}) {
                int last = Math.max(0, count - 1);
                Object full = count == 24 ? Sentences.STATE : (Object) count;
                // the last one that there is may be named; itself and later ones not, nor -1
                due(namedBy(reason) > 0 && count == 0 ? Sentences.INDEX : full,
                        () -> lines(count).line(0, asked, last, last));
                for (int odd : new int[] {count, count + 1, -1, Sentences.LOW, Sentences.HIGH}) {
                    nameOdd(asked, count, odd, full);
                }
            }
        }
    }

    private static void nameOdd(int reason, int count, int odd, Object full) {
        if (namedBy(reason) >= 1) {
            Sentences.refused(Sentences.INDEX, () -> lines(count), b -> b.line(0, reason, odd, 0));
        } else {
            due(full, () -> lines(count).line(0, reason, odd, odd));
        }
        if (namedBy(reason) == 2) {
            Sentences.refused(Sentences.INDEX, () -> lines(count), b -> b.line(0, reason, 0, odd));
        } else if (count > 0) {
            due(full, () -> lines(count).line(0, reason, 0, odd));
        }
    }

    private static void notLookedAt(boolean isX) {
        for (int reason = 0; reason <= 9; reason++) {
            int asked = reason;
            boolean isLookedAt = namedBy(reason) >= (isX ? 1 : 2);
            for (int odd : new int[] {3, 24, -1, Sentences.LOW, Sentences.HIGH}) {
                Bench b = lines(3);
                due(isLookedAt ? Sentences.INDEX : (Object) 3, () -> b.line(0, asked, isX ? odd : 2, isX ? 2 : odd));
            }
        }
    }

    /** Whether a LINE more would be RIGHT; it is taken away again. */
    private static boolean right(Bench b, int formula, int reason, int x, int y) {
        int line = b.line(formula, reason, x, y);
        boolean isRight = b.isRight(line);
        b.unline();
        return isRight;
    }

    private static void sameNumber() {
        Bench b = new Bench();
        int one = b.equality("0", "1");
        int turned = b.equality("1", "0");
        int and = b.formula(Bench.AND, one, one);
        b.line(one, 0, 0, 0);
        b.line(turned, 0, 0, 0);
        b.line(and, 0, 0, 0);
        // for SEQUENTS they are the same, but their numbers are not
        due(true, () -> right(b, turned, 9, 0, 0));
        due(true, () -> right(b, one, 3, 2, 0));
        due(false, () -> right(b, turned, 3, 2, 0));
        due(true, () -> right(b, and, 2, 0, 0));
        due(false, () -> right(b, and, 2, 0, 1));
        due(false, () -> right(b, and, 2, 1, 0));
    }

    private static void byGiven() {
        Bench b = new Bench().atoms();
        int same = b.equality("0", "1");
        for (int formula = 0; formula <= same; formula++) {
            int asked = formula;
            due(true, () -> right(b, asked, 0, -1, Sentences.HIGH));
        }
    }

    /** With GIVEN LINES of the FORMULAS 0 to 5, the ATOMS, and then of those that are told. */
    private static Bench givens(int[]... formulas) {
        Bench b = new Bench().atoms();
        for (int formula = 0; formula < 6; formula++) {
            b.line(formula, 0, 0, 0);
        }
        for (int[] one : formulas) {
            b.line(b.formula(one[0], one[1], one[2]), 0, 0, 0);
        }
        return b;
    }

    private static void byImplication() {
        Bench b = givens(new int[] {Bench.IMPLIES, 0, 1}, new int[] {Bench.OR, 0, 1}, new int[] {Bench.AND, 0, 1},
                new int[] {Bench.IMPLIES, 2, 2});
        due(true, () -> right(b, 1, 1, 0, 6));
        due(false, () -> right(b, 1, 1, 6, 0));
        due(false, () -> right(b, 2, 1, 0, 6));
        due(false, () -> right(b, 1, 1, 2, 6));
        due(false, () -> right(b, 0, 1, 1, 6));
        due(false, () -> right(b, 1, 1, 0, 7));
        due(false, () -> right(b, 1, 1, 0, 8));
        due(false, () -> right(b, 1, 1, 0, 0));
        due(true, () -> right(b, 2, 1, 2, 9));
    }

    private static void byBoth() {
        Bench b = givens();
        int and = b.formula(Bench.AND, 0, 1);
        int twice = b.formula(Bench.AND, 3, 3);
        due(true, () -> right(b, and, 2, 0, 1));
        due(false, () -> right(b, and, 2, 1, 0));
        due(false, () -> right(b, and, 2, 0, 0));
        due(false, () -> right(b, and, 2, 1, 1));
        due(true, () -> right(b, twice, 2, 3, 3));
        due(false, () -> right(b, b.formula(Bench.OR, 0, 1), 2, 0, 1));
        due(false, () -> right(b, b.formula(Bench.IMPLIES, 0, 1), 2, 0, 1));
        due(false, () -> right(b, 0, 2, 0, 1));
    }

    private static void byPartOfAnd() {
        Bench b = givens(new int[] {Bench.AND, 0, 1}, new int[] {Bench.OR, 0, 1}, new int[] {Bench.IMPLIES, 0, 1},
                new int[] {Bench.NOT, 0, 0}, new int[] {Bench.AND, 2, 2});
        due(true, () -> right(b, 0, 3, 6, 0));
        due(false, () -> right(b, 1, 3, 6, 0));
        due(false, () -> right(b, 2, 3, 6, 0));
        due(true, () -> right(b, 1, 4, 6, 0));
        due(false, () -> right(b, 0, 4, 6, 0));
        due(true, () -> right(b, 2, 3, 10, 0) && right(b, 2, 4, 10, 0));
        for (int other : new int[] {0, 1, 7, 8, 9}) {
            due(false, () -> right(b, 0, 3, other, 0));
            due(false, () -> right(b, 0, 4, other, 0));
            due(false, () -> right(b, 1, 4, other, 0));
        }
    }

    private static void byPartOfOr() {
        Bench b = givens();
        int or = b.formula(Bench.OR, 0, 1);
        int twice = b.formula(Bench.OR, 2, 2);
        due(true, () -> right(b, or, 5, 0, 0));
        due(false, () -> right(b, or, 5, 1, 0));
        due(true, () -> right(b, or, 6, 1, 0));
        due(false, () -> right(b, or, 6, 0, 0));
        due(true, () -> right(b, twice, 5, 2, 0) && right(b, twice, 6, 2, 0));
        for (int kind : new int[] {Bench.NOT, Bench.AND, Bench.IMPLIES}) {
            int other = b.formula(kind, 0, 1);
            due(false, () -> right(b, other, 5, 0, 0));
            due(false, () -> right(b, other, 6, 1, 0));
            due(false, () -> right(b, other, 6, 0, 0));
        }
        due(false, () -> right(b, 0, 5, 0, 0));
        due(false, () -> right(b, 0, 6, 0, 0));
    }

    private static void byContradiction() {
        Bench b = givens(new int[] {Bench.NOT, 0, 0}, new int[] {Bench.AND, 0, 0}, new int[] {Bench.NOT, 6, 0});
        for (int formula = 0; formula < 6; formula++) {
            int asked = formula;
            due(true, () -> right(b, asked, 7, 0, 6));
        }
        due(false, () -> right(b, 0, 7, 6, 0));
        due(false, () -> right(b, 0, 7, 1, 6));
        due(false, () -> right(b, 0, 7, 0, 7));
        due(true, () -> right(b, 5, 7, 6, 8));
        due(false, () -> right(b, 5, 7, 0, 8));
        due(false, () -> right(b, 5, 7, 0, 0));
    }

    private static void byTruth() {
        Bench b = new Bench().atoms();
        int same = b.equality("x", "x");
        int other = b.equality("x", "y");
        due(true, () -> right(b, same, 8, -1, -1));
        due(false, () -> right(b, other, 8, -1, -1));
        due(false, () -> right(b, 0, 8, 0, 0));
        // proved, but no EQUALITY
        int and = b.formula(Bench.AND, same, same);
        due(true, () -> b.isProved(and));
        due(false, () -> right(b, and, 8, 0, 0));
        // as far as 30 times go
        b.ruled("32x", "23x", "30", "0");
        due(true, () -> right(b, b.equality("3333322222" + "0", "222220"), 8, 0, 0));
        due(false, () -> right(b, b.equality("33333222223" + "0", "222220"), 8, 0, 0));
    }

    /** The FORMULA 0 AND/OR (...): so many ones and, innermost, the last one. */
    private static int nested(Bench b, int kind, int[] ones, int last) {
        int formula = last;
        for (int i = ones.length - 1; i >= 0; i--) {
            formula = b.formula(kind, ones[i], formula);
        }
        return formula;
    }

    private static int leftNested(Bench b, int kind, int one, int times, int last) {
        int formula = one;
        for (int i = 1; i < times; i++) {
            formula = b.formula(kind, formula, one);
        }
        return b.formula(kind, formula, last);
    }

    private static boolean follows(Bench b, int from, int formula) {
        int x = b.line(from, 0, 0, 0);
        boolean isRight = right(b, formula, 9, x, 0);
        b.unline();
        return isRight;
    }

    private static void bySequent() {
        Bench b = new Bench().atoms();
        due(true, () -> follows(b, 0, 0));
        due(false, () -> follows(b, 0, 1));
        due(true, () -> follows(b, 0, b.equality("0", "0")));
        due(false, () -> follows(b, b.equality("0", "0"), 0));
        // the two largest FORMULAS: 49 SEQUENTS, and all but the last one
        int ors = leftNested(b, Bench.OR, 0, 6, 0);
        int orsBut = leftNested(b, Bench.OR, 0, 6, 1);
        int ands = leftNested(b, Bench.AND, 0, 6, 0);
        int andsBut = leftNested(b, Bench.AND, 0, 6, 1);
        due(true, () -> follows(b, ors, ands));
        due(false, () -> follows(b, orsBut, ands));
        due(false, () -> follows(b, ors, andsBut));
        due(false, () -> follows(b, orsBut, andsBut));
        mostOnTheLeft();
        mostOnTheRight();
    }

    /** 13 ATOMS and EQUALITIES on the left: 7 of 6 ANDs, and 6 of 6 IMPLIES; the last one closes. */
    private static void mostOnTheLeft() {
        Bench b = new Bench().atoms().fillTerms(8);
        int[] equalities = new int[7];
        for (int i = 0; i < 7; i++) {
            equalities[i] = b.formula(Bench.EQUALITY, 0, i + 1);
        }
        int and = nested(b, Bench.AND, new int[] {0, 1, 2, 3, 4, 5}, equalities[0]);
        int[] ones = {equalities[1], equalities[2], equalities[3], equalities[4], equalities[5], equalities[6]};
        due(true, () -> follows(b, and, nested(b, Bench.IMPLIES, ones, equalities[6])));
        due(true, () -> follows(b, and, nested(b, Bench.IMPLIES, ones, equalities[0])));
        ones[5] = equalities[5];
        due(false, () -> follows(b, and, nested(b, Bench.IMPLIES, ones, equalities[6])));
    }

    /** 13 on the right: 6 of NOT and 5 ORs, and 7 of 6 ORs; the innermost one is TRUE. */
    private static void mostOnTheRight() {
        for (int place = 0; place < 3; place++) {
            Bench b = new Bench().atoms();
            int same = b.equality("0", "0");
            int[] ones = {0, 1, 2, 3, 4};
            int not = b.formula(Bench.NOT, nested(b, Bench.OR, ones, place == 0 ? same : 5), 0);
            int or = nested(b, Bench.OR, new int[] {0, 1, 2, 3, 4, 5}, place == 1 ? same : 5);
            due(place < 2, () -> follows(b, not, or));
        }
    }

    private static void allNamedAreRight() {
        // 24 LINES, each by the one ahead of it: the first one decides
        Bench all = new Bench().atoms();
        all.line(0, 0, 0, 0);
        Bench none = new Bench().atoms();
        none.line(0, 8, 0, 0);
        for (int line = 1; line < MOST_LINES; line++) {
            all.line(0, 9, line - 1, 0);
            none.line(0, 9, line - 1, 0);
        }
        for (int line = 0; line < MOST_LINES; line++) {
            int asked = line;
            due(true, () -> all.isRight(asked));
            due(false, () -> none.isRight(asked));
        }
        due(Sentences.INDEX, () -> all.isRight(24));
        due(Sentences.INDEX, () -> all.isRight(-1));
        // x or y alone
        Bench b = givens(new int[] {Bench.IMPLIES, 0, 1}, new int[] {Bench.NOT, 0, 0});
        int wrong = b.line(0, 3, 1, 0);
        int wrongImplies = b.line(6, 3, 1, 0);
        int and = b.formula(Bench.AND, 0, 1);
        int turned = b.formula(Bench.AND, 1, 0);
        due(true, () -> right(b, 1, 1, 0, 6));
        due(false, () -> right(b, 1, 1, wrong, 6));
        due(false, () -> right(b, 1, 1, 0, wrongImplies));
        due(true, () -> right(b, and, 2, 0, 1));
        due(false, () -> right(b, and, 2, wrong, 1));
        due(false, () -> right(b, turned, 2, 1, wrong));
        due(false, () -> right(b, 5, 7, wrong, 7));
        due(false, () -> right(b, 0, 9, wrong, 0));
        // one that only stands behind a wrong one, and does not name it
        due(true, () -> right(b, 0, 0, 0, 0));
        due(true, () -> right(b, 0, 9, 0, 0));
        // one by a RIGHT one, though the first LINE of all is wrong
        Bench first = new Bench().atoms();
        first.line(1, 8, 0, 0);
        first.line(0, 0, 0, 0);
        int or = first.formula(Bench.OR, 0, 0);
        due(true, () -> right(first, or, 5, 1, 0));
        due(true, () -> right(first, or, 6, 1, 0));
        due(true, () -> right(first, 0, 9, 1, 0));
        due(true, () -> right(first, 0, 0, 0, 0));
        // what a REASON does not look at does not matter
        due(true, () -> right(b, 0, 9, 0, wrong));
        due(true, () -> right(b, 0, 0, wrong, wrong));
    }

    private static void lastLineAway() {
        Sentences.refused(Sentences.STATE, () -> new Bench().atoms(), Bench::unline);
        Bench b = lines(24);
        for (int left = 23; left >= 0; left--) {
            due(left, b::unline);
            int gone = left;
            due(Sentences.INDEX, () -> b.isRight(gone));
            due(Sentences.INDEX, () -> b.given(gone));
        }
        due(Sentences.STATE, b::unline);
        due(Sentences.STATE, b::unline);
        due(-1, b::firstWrong);
        // the next one has the number again, and nothing of the one that went
        due(0, () -> b.line(1, 8, 0, 0));
        due(false, () -> b.isRight(0));
        due(0, () -> b.given(0));
        due(0, b::unline);
        due(0, () -> b.line(1, 0, 0, 0));
        due(true, () -> b.isRight(0));
        due(1, () -> b.given(0));
    }

    private static void byRulesAsTheyAre() {
        Bench b = new Bench();
        int same = b.equality("3x", "x");
        b.line(same, 8, 0, 0);
        b.line(b.formula(Bench.AND, same, same), 2, 0, 0);
        due(false, () -> b.isRight(1));
        b.waits("3x", "x");
        due(false, () -> b.isRight(1));
        b.rulesAfter(1);
        due(false, () -> b.isRight(1));
        b.complete(1);
        due(true, () -> b.isRight(0));
        due(true, () -> b.isRight(1));
        due(-1, b::firstWrong);
        b.dropRule(0);
        due(false, () -> b.isRight(1));
        due(0, b::firstWrong);
    }

    private static void givenOnce() {
        // itself, and none
        Bench b = lines(1);
        due(1, () -> b.given(0));
        b.line(0, 8, 0, 0);
        due(0, () -> b.given(1));
        // x and y the same one, or on the same one: once
        b.line(0, 2, 0, 0);
        due(1, () -> b.given(2));
        b.line(0, 1, 2, 0);
        due(1, () -> b.given(3));
        b.line(0, 7, 1, 3);
        due(1, () -> b.given(4));
        due(Sentences.INDEX, () -> b.given(5));
        due(Sentences.INDEX, () -> b.given(-1));
        // the most of all: 12 GIVEN, with 11 that join them; it does not matter whether they are RIGHT
        Bench most = lines(12);
        most.line(5, 1, 0, 1);
        for (int i = 2; i < 12; i++) {
            most.line(5, 7, 10 + i, i);
        }
        for (int i = 0; i < 11; i++) {
            int asked = i;
            due(asked + 2, () -> most.given(12 + asked));
        }
        due(23, () -> most.line(5, 9, 22, 0));
        due(12, () -> most.given(23));
        // what a REASON does not look at is not named
        Bench aside = lines(3);
        aside.line(0, 9, 0, 1);
        due(1, () -> aside.given(3));
        aside.line(0, 0, 1, 2);
        due(1, () -> aside.given(4));
        aside.line(0, 8, 1, 2);
        due(0, () -> aside.given(5));
        // the last LINE, GIVEN as the 24th
        due(1, () -> lines(24).given(23));
    }

    private static void firstWrong() {
        due(-1, () -> new Bench().firstWrong());
        due(-1, () -> lines(24).firstWrong());
        for (int wrong : new int[] {0, 1, 12, 22, 23}) {
            Bench b = lines(wrong);
            b.line(0, 8, 0, 0);
            due(wrong, b::firstWrong);
            if (wrong < 22) {
                b.line(0, 8, 0, 0);
                b.line(0, 9, wrong, 0);
                due(wrong, b::firstWrong);
                b.unline();
                b.unline();
            }
            b.unline();
            due(-1, b::firstWrong);
        }
    }

    // ---- what would be, and the checksum

    private static void nothingIsChanged() {
        Supplier<Bench> start = () -> {
            Bench b = new Bench().ruled("3x", "x", "42xx", "0").fillTerms(17);
            b.waits("44xyz", "4x4yz");
            b.waits("501", "0");
            b.atoms();
            b.line(b.equality("32y", "2y"), 8, 0, 0);
            return b;
        };
        Bench b = start.get();
        long digest = b.digest();
        for (int steps = 1; steps <= 3; steps++) {
            b.rulesAfter(steps);
            due(digest, b::digest);
        }
        for (int term = 0; term < 17; term++) {
            b.sizeWithout(0, term);
            b.sizeWithout(1, term);
        }
        due(digest, b::digest);
        due(start.get().story(), b::story);
    }

    /** By whole numbers that do not wrap around, cut to 64 bits at the end. */
    private static final class Sum {

        private BigInteger d = BigInteger.valueOf(58092);

        void take(long v) {
            d = d.multiply(BigInteger.valueOf(31)).add(BigInteger.valueOf(v));
        }

        boolean isWrapped() {
            return d.bitLength() > 63;
        }

        long cut() {
            return d.longValue();
        }
    }

    /** What digest() must answer, asked of an object of its own by the other calls. */
    private static Sum summed(Bench b) {
        Sum sum = new Sum();
        int terms = b.terms();
        sum.take(terms);
        for (int what = 0; what <= 4; what++) {
            sum.take(b.many(what));
        }
        int rules = b.many(0);
        for (int rule = 0; rule < rules; rule++) {
            for (int side = 0; side < 2; side++) {
                int term = b.rule(rule, side == 0);
                int size = b.ofTerm(term, 0);
                for (int place = 0; place < size; place++) {
                    sum.take(b.at(term, place));
                }
            }
        }
        for (int term = 0; term < Math.min(20, terms); term++) {
            sum.take(b.ofTerm(term, 0));
            sum.take(b.steps(term));
            sum.take(b.ofTerm(b.normal(term), 0));
        }
        int formulas = b.formulas();
        for (int formula = 0; formula < Math.min(12, formulas); formula++) {
            sum.take(b.isProved(formula) ? 1 : 0);
            for (int what = 0; what <= 2; what++) {
                sum.take(b.proof(formula, what));
            }
        }
        for (int line = 0; line < MOST_LINES; line++) {
            int asked = line;
            if (Sentences.answerOf(() -> b.given(asked)) instanceof Integer given) {
                sum.take(b.isRight(line) ? 1 : 0);
                sum.take(given);
            }
        }
        return sum;
    }

    private static void dueSum(Supplier<Bench> start) {
        long want = summed(start.get()).cut();
        Bench b = start.get();
        due(want, b::digest);
        due(want, b::digest);
    }

    private static void digestWraps() {
        due(58092L * 887503681L, () -> new Bench().digest());
        // 9 numbers: the last that stays below 2^63; 10 numbers: the first beyond it
        Supplier<Bench> last = () -> new Bench().fillTerms(1);
        Supplier<Bench> first = () -> {
            Bench b = new Bench();
            b.formula(Bench.ATOM, 0, 0);
            return b;
        };
        due(false, () -> summed(last.get()).isWrapped());
        due(true, () -> summed(first.get()).isWrapped());
        dueSum(last);
        dueSum(first);
        // below 0 and above it
        boolean[] seen = new boolean[2];
        for (int terms = 0; terms <= 12; terms++) {
            int asked = terms;
            Supplier<Bench> start = () -> new Bench().fillTerms(asked);
            dueSum(start);
            seen[start.get().digest() < 0 ? 0 : 1] = true;
        }
        due(true, () -> seen[0] && seen[1]);
    }

    private static void digestOfRules() {
        for (int rules : new int[] {0, 1, 7, 8}) {
            dueSum(() -> new Bench().fillRules(rules));
        }
        dueSum(() -> new Bench().ruled("54wx4yz", "44zy4xw", Bench.chain('2', 11, "z"), Bench.chain('2', 10, "z")));
        // told by their PLACES, though neither l nor r is numbered
        Bench b = new Bench().ruled("3x", "x", "423x23x", "0");
        int terms = b.terms();
        b.digest();
        due(terms, b::terms);
    }

    private static void digestOfTerms() {
        for (int terms : new int[] {0, 1, 19, 20, 21, 22, 60}) {
            dueSum(() -> new Bench().fillTerms(terms));
            // .. each with steps of its own
            if (terms > 0) {
                dueSum(() -> rewriting(terms));
            }
        }
        // the 21st is counted by terms() alone: one of another SIZE changes nothing
        Bench one = new Bench().fillTerms(20);
        Bench other = new Bench().fillTerms(20);
        one.term(1, 0, 0);
        other.term(3, 10, 0);
        due(one.digest(), other::digest);
        Bench twentieth = new Bench().fillTerms(19);
        Bench otherTwentieth = new Bench().fillTerms(19);
        twentieth.term(1, 0, 0);
        otherTwentieth.term(3, 10, 0);
        due(false, () -> twentieth.digest() == otherTwentieth.digest());
    }

    /** A RULE by which TERMS of fillTerms are REWRITTEN; l and r of it are numbered among them. */
    private static Bench rewriting(int terms) {
        Bench b = new Bench().fillTerms(Math.max(3, terms));
        b.equation(2, 1);
        b.complete(1);
        return b;
    }

    private static void digestOfFormulas() {
        for (int formulas : new int[] {0, 1, 11, 12, 13, 40}) {
            dueSum(() -> new Bench().fillFormulas(formulas));
        }
        // PROVED ones among them, and EQUALITIES of TERMS behind the 20th, that no other call has asked for
        for (int closing = 0; closing < 12; closing++) {
            int proved = closing;
            dueSum(() -> {
                Bench b = new Bench();
                for (int i = 0; i < 12; i++) {
                    int atom = b.formula(Bench.ATOM, i % 6, 0);
                    b.formula(i < 6 ? Bench.IMPLIES : Bench.NOT, atom, i == proved ? atom : 0);
                }
                return b;
            });
        }
        dueSum(() -> {
            Bench b = new Bench().fillTerms(40).ruled("20", "0");
            b.formula(Bench.EQUALITY, 30, 31);
            b.formula(Bench.EQUALITY, 30, 12);
            b.formula(Bench.EQUALITY, 39, 38);
            b.formula(Bench.EQUALITY, 20, 39);
            return b;
        });
        // the 13th does not count, the 12th does
        for (int many : new int[] {11, 12}) {
            Bench one = new Bench().fillFormulas(many);
            Bench other = new Bench().fillFormulas(many);
            one.formula(Bench.IMPLIES, 0, 0);
            other.formula(Bench.NOT, 0, 0);
            due(many == 12, () -> one.digest() == other.digest());
        }
    }

    private static void digestOfLines() {
        for (int lines : new int[] {0, 1, 23, 24}) {
            dueSum(() -> lines(lines));
            if (lines > 0) {
                dueSum(() -> {
                    Bench b = lines(lines - 1);
                    b.line(5, 8, 0, 0);
                    return b;
                });
            }
        }
        // the 24th counts
        Bench one = lines(23);
        Bench other = lines(23);
        one.line(0, 0, 0, 0);
        other.line(0, 9, 22, 0);
        due(one.digest(), other::digest);
        other.unline();
        other.line(0, 8, 0, 0);
        due(false, () -> one.digest() == other.digest());
    }
}
