import java.util.ArrayList;
import java.util.List;

/** Long mixed runs on the program and on PlainWorkshop: every answer, and every exception, the same. */
public final class AgainstPlainTest {

    private static final int RUNS = 1200;
    private static final int CALLS = 511;
    private static final String[] FACE = {
        "variable", "term", "terms", "ofTerm", "at", "compare", "fits", "meet", "equation", "complete",
        "dropRule", "many", "rule", "normal", "steps", "areEqual", "overlaps", "meanSize", "formula",
        "formulas", "isProved", "proof", "line", "unline", "isRight", "given", "firstWrong",
        "rulesAfter", "sizeWithout", "digest"
    };
    // How often each call of FACE comes: everything alike, then mostly rules, mostly formulas and proofs.
    private static final int[][] PROFILES = {
        {2, 8, 1, 2, 2, 2, 2, 4, 6, 4, 1, 2, 2, 2, 2, 2, 3, 1, 8, 1, 3, 3, 8, 1, 3, 2, 2, 2, 2, 1},
        {1, 12, 1, 1, 1, 3, 2, 4, 12, 16, 2, 2, 2, 3, 3, 3, 4, 1, 1, 1, 1, 1, 1, 1, 1, 1, 1, 5, 4, 1},
        {1, 3, 1, 1, 1, 1, 1, 1, 2, 2, 1, 1, 1, 1, 1, 2, 1, 1, 24, 1, 8, 8, 30, 1, 6, 4, 2, 1, 1, 1},
        {1, 9, 1, 1, 1, 3, 2, 8, 9, 9, 3, 2, 4, 2, 2, 2, 4, 1, 2, 1, 1, 1, 2, 1, 1, 1, 1, 3, 2, 1},
    };
    private static final String[] RARE = {
        "30 times REWRITTEN", "a VARIABLE in what would be put for it", "they MEET above 12",
        "completing begins anew",
        "an OVERLAP with the same sides", "an OVERLAP above 12", "an OVERLAP with more than 4 VARIABLES",
        "an OVERLAP", "an EQUATION whose sides are the same", "an EQUATION that is put ASIDE",
        "more than 8 RULES", "more than 20 EQUATIONS", "a RULE that is taken away", "a new RULE",
        "taken apart on the left, kind 2", "taken apart on the left, kind 3",
        "taken apart on the left, kind 4", "taken apart on the left, kind 5",
        "taken apart on the right, kind 2", "taken apart on the right, kind 3",
        "taken apart on the right, kind 4", "taken apart on the right, kind 5",
        "a SEQUENT proved", "a SEQUENT refuted",
        "a LINE by 0 that is RIGHT", "a LINE by 1 that is RIGHT", "a LINE by 2 that is RIGHT",
        "a LINE by 3 that is RIGHT", "a LINE by 4 that is RIGHT", "a LINE by 5 that is RIGHT",
        "a LINE by 6 that is RIGHT", "a LINE by 7 that is RIGHT", "a LINE by 8 that is RIGHT",
        "a LINE by 9 that is RIGHT", "a LINE by 1 that is not RIGHT", "a LINE by 2 that is not RIGHT",
        "a LINE by 3 that is not RIGHT", "a LINE by 4 that is not RIGHT", "a LINE by 5 that is not RIGHT",
        "a LINE by 6 that is not RIGHT", "a LINE by 7 that is not RIGHT", "a LINE by 8 that is not RIGHT",
        "a LINE by 9 that is not RIGHT",
    };

    private long random;
    private final int run;
    private final Latticework program = new Latticework();
    private final PlainWorkshop plain = new PlainWorkshop();
    private final List<String> told = new ArrayList<>();

    private AgainstPlainTest(int run) {
        this.run = run;
        this.random = run * 7919L + 12345;
    }

    public static void main(String[] args) {
        boolean isRight = true;
        for (int run = 0; run < RUNS && isRight; run++) {
            isRight = new AgainstPlainTest(run).go();
        }
        for (String what : RARE) {
            if (!PlainWorkshop.seen.containsKey(what)) {
                System.out.println("AgainstPlainTest never came to: " + what);
                isRight = false;
            }
        }
        if (args.length > 0) {
            System.out.println(PlainWorkshop.seen.toString().replace(", ", "\n"));
        }
        if (!isRight) {
            System.exit(1);
        }
    }

    private int below(int bound) {
        random = random * 6364136223846793005L + 1442695040888963407L;
        return (int) Math.floorMod(random >>> 33, (long) bound);
    }

    /** Mostly one of count things, now and then none of them. */
    private int among(int count) {
        int odd = below(60);
        if (odd == 0) {
            return count + below(2);
        }
        if (odd == 1) {
            return new int[] {-1, Integer.MIN_VALUE, Integer.MAX_VALUE, count + 64}[below(4)];
        }
        if (count == 0) {
            return below(2);
        }
        return below(3) == 0 ? Math.max(0, count - 1 - below(4)) : below(count);
    }

    private boolean go() {
        int[] profile = PROFILES[run % PROFILES.length];
        int sum = 0;
        for (int often : profile) {
            sum += often;
        }
        if (run % 3 != 0 && !beginWithSome()) {
            return false;
        }
        if (run % 10 == 5 && !beginWithLongWays()) {
            return false;
        }
        for (int i = told.size(); i < CALLS; i++) {
            int pick = below(sum);
            int call = 0;
            while (pick >= profile[call]) {
                pick -= profile[call];
                call++;
            }
            if (!randomCall(FACE[call])) {
                return false;
            }
        }
        return sameAnswers("digest", 0, 0, 0, 0);
    }

    /** A start that makes proofs and rules likely to come to something. */
    private boolean beginWithSome() {
        for (int i = 0; i < 3; i++) {
            if (!sameAnswers("variable", i, 0, 0, 0) || !sameAnswers("term", i % 2, 0, 0, 0)
                    || !sameAnswers("formula", 0, i, 0, 0)) {
                return false;
            }
        }
        return true;
    }

    /** RULES by which signs 3 sink through signs 2, and TERMS that are rewritten very often by them. */
    private boolean beginWithLongWays() {
        int zero = built(0, 0);
        int variable = built(-1, 0);
        boolean isSame = sameAnswers("equation", built(3, built(2, variable)), built(2, built(3, variable)), 0, 0)
                && sameAnswers("equation", built(3, zero), built(2, zero), 0, 0)
                && sameAnswers("complete", 2, 0, 0, 0);
        int now = zero;
        for (int i = 0; i < 11; i++) {
            now = built(below(5) == 0 ? 2 : 3, now);
        }
        return isSame && sameAnswers("steps", now, 0, 0, 0);
    }

    private int built(int sign, int part) {
        if (sign < 0) {
            sameAnswers("variable", part, 0, 0, 0);
            return plain.variable(part);
        }
        sameAnswers("term", sign, part, 0, 0);
        return plain.term(sign, part, 0);
    }

    private boolean randomCall(String call) {
        int terms = plain.terms.size();
        int rules = plain.rules.size();
        int formulas = plain.formulas.size();
        int lines = plain.lines.size();
        switch (call) {
            case "variable":
                return sameAnswers(call, among(4), 0, 0, 0);
            case "term":
                return sameAnswers(call, among(6), among(terms), among(terms), 0);
            case "ofTerm":
                return sameAnswers(call, among(terms), among(2), 0, 0);
            case "at":
                return sameAnswers(call, among(terms), among(3 + below(10)), 0, 0);
            case "complete":
            case "rulesAfter":
                return sameAnswers(call, 1 + among(3), 0, 0, 0);
            case "many":
                return sameAnswers(call, among(5), 0, 0, 0);
            case "dropRule":
                return sameAnswers(call, among(rules), 0, 0, 0);
            case "rule":
                return sameAnswers(call, among(rules), below(2), 0, 0);
            case "overlaps":
                return sameAnswers(call, among(rules), among(rules), 0, 0);
            case "sizeWithout":
                return sameAnswers(call, among(rules), among(terms), 0, 0);
            case "formula":
                return randomFormula(terms, formulas);
            case "isProved":
                return sameAnswers(call, among(formulas), 0, 0, 0);
            case "proof":
                return sameAnswers(call, among(formulas), among(3), 0, 0);
            case "line":
                return randomLine(formulas, lines);
            case "isRight":
            case "given":
                return sameAnswers(call, among(lines), 0, 0, 0);
            default:
                return sameAnswers(call, among(terms), among(terms), 0, 0);
        }
    }

    private boolean randomFormula(int terms, int formulas) {
        int kind = among(6);
        if (kind == 0) {
            return sameAnswers("formula", kind, among(6), among(9), 0);
        }
        int many = kind == 1 ? terms : formulas;
        return sameAnswers("formula", kind, among(many), among(many), 0);
    }

    /** Half of the LINES are looked for among those whose REASON holds. */
    private boolean randomLine(int formulas, int lines) {
        int formula = among(formulas);
        int reason = among(10);
        int x = among(lines);
        int y = among(lines);
        for (int i = 0; i < 60 && below(2) == 0 && lines > 0 && formulas > 0; i++) {
            formula = below(formulas);
            x = below(lines);
            y = below(lines);
        }
        if (below(2) == 0 && lines > 0 && reason >= 1 && reason <= 7) {
            for (int f = 0; f < formulas; f++) {
                PlainWorkshop.Formula made = plain.formulas.get(f);
                int ofX = x >= 0 && x < lines ? plain.lines.get(x).formula() : -1;
                boolean isOfX = made.a() == ofX || made.b() == ofX;
                if (made.kind() > 1 && isOfX && below(2) == 0) {
                    formula = f;
                }
            }
            if (reason == 3 || reason == 4) {
                for (int i = 0; i < lines; i++) {
                    PlainWorkshop.Formula ofLine = plain.formulas.get(plain.lines.get(i).formula());
                    if (ofLine.kind() == 3 && below(2) == 0) {
                        x = i;
                        formula = reason == 3 ? ofLine.a() : ofLine.b();
                    }
                }
            }
            if (reason == 1 || reason == 7) {
                for (int i = 0; i < lines; i++) {
                    PlainWorkshop.Formula ofLine = plain.formulas.get(plain.lines.get(i).formula());
                    for (int j = 0; j < lines; j++) {
                        if (ofLine.kind() == (reason == 1 ? 5 : 2) && ofLine.a() == plain.lines.get(j).formula()) {
                            x = j;
                            y = i;
                            formula = reason == 1 ? ofLine.b() : formula;
                        }
                    }
                }
            }
        }
        return sameAnswers("line", formula, reason, x, y);
    }

    private boolean sameAnswers(String call, int a, int b, int c, int d) {
        String due = answerOfPlain(call, a, b, c, d);
        String got = answerOfProgram(call, a, b, c, d);
        told.add(call + "(" + a + ", " + b + ", " + c + ", " + d + ") = " + due);
        if (due.equals(got)) {
            return true;
        }
        System.out.println("AgainstPlainTest run " + run + ":");
        for (String line : told) {
            System.out.println("  " + line);
        }
        System.out.println("  but the program answered " + got);
        return false;
    }

    private String answerOfProgram(String call, int a, int b, int c, int d) {
        try {
            switch (call) {
                case "variable": return "" + program.variable(a);
                case "term": return "" + program.term(a, b, c);
                case "terms": return "" + program.terms();
                case "ofTerm": return "" + program.ofTerm(a, b);
                case "at": return "" + program.at(a, b);
                case "compare": return "" + program.compare(a, b);
                case "fits": return "" + program.fits(a, b);
                case "meet": return "" + program.meet(a, b);
                case "equation": return "" + program.equation(a, b);
                case "complete": return "" + program.complete(a);
                case "dropRule": return "" + program.dropRule(a);
                case "many": return "" + program.many(a);
                case "rule": return "" + program.rule(a, b == 1);
                case "normal": return "" + program.normal(a);
                case "steps": return "" + program.steps(a);
                case "areEqual": return "" + program.areEqual(a, b);
                case "overlaps": return "" + program.overlaps(a, b);
                case "meanSize": return "" + program.meanSize();
                case "formula": return "" + program.formula(a, b, c);
                case "formulas": return "" + program.formulas();
                case "isProved": return "" + program.isProved(a);
                case "proof": return "" + program.proof(a, b);
                case "line": return "" + program.line(a, b, c, d);
                case "unline": return "" + program.unline();
                case "isRight": return "" + program.isRight(a);
                case "given": return "" + program.given(a);
                case "firstWrong": return "" + program.firstWrong();
                case "rulesAfter": return "" + program.rulesAfter(a);
                case "sizeWithout": return "" + program.sizeWithout(a, b);
                default: return "" + program.digest();
            }
        } catch (RuntimeException e) {
            return e.getClass().getName();
        }
    }

    private String answerOfPlain(String call, int a, int b, int c, int d) {
        try {
            switch (call) {
                case "variable": return "" + plain.variable(a);
                case "term": return "" + plain.term(a, b, c);
                case "terms": return "" + plain.terms.size();
                case "ofTerm": return "" + plain.ofTerm(a, b);
                case "at": return "" + plain.at(a, b);
                case "compare": return "" + plain.compare(a, b);
                case "fits": return "" + plain.fits(a, b);
                case "meet": return "" + plain.meet(a, b);
                case "equation": return "" + plain.equation(a, b);
                case "complete": return "" + plain.complete(a);
                case "dropRule": return "" + plain.dropRule(a);
                case "many": return "" + plain.many(a);
                case "rule": return "" + plain.rule(a, b == 1);
                case "normal": return "" + plain.normal(a);
                case "steps": return "" + plain.steps(a);
                case "areEqual": return "" + plain.areEqual(a, b);
                case "overlaps": return "" + plain.overlaps(a, b);
                case "meanSize": return "" + plain.meanSize();
                case "formula": return "" + plain.formula(a, b, c);
                case "formulas": return "" + plain.formulas.size();
                case "isProved": return "" + plain.isProved(a);
                case "proof": return "" + plain.proof(a, b);
                case "line": return "" + plain.line(a, b, c, d);
                case "unline": return "" + plain.unline();
                case "isRight": return "" + plain.isRight(a);
                case "given": return "" + plain.given(a);
                case "firstWrong": return "" + plain.firstWrong();
                case "rulesAfter": return "" + plain.rulesAfter(a);
                case "sizeWithout": return "" + plain.sizeWithout(a, b);
                default: return "" + plain.digest();
            }
        } catch (RuntimeException e) {
            return e.getClass().getName();
        }
    }
}
