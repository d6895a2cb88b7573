import java.util.function.BiConsumer;
import java.util.function.Consumer;
import java.util.function.Supplier;
import java.util.function.ToIntFunction;

/**
 * Every row of the document that says what a call throws, and the two sentences on exceptions: the
 * last value that is allowed, the first one that is not, and that a refused call changes nothing.
 */
public final class ThrowsRowsTest {

    private static final String NO_TERM = "Throws `IndexOutOfBoundsException` if there is no such TERM";
    private static final String NO_RULE = "Throws `IndexOutOfBoundsException` if there is no such RULE";
    private static final String NO_FORMULA = "Throws `IndexOutOfBoundsException` if there is no such FORMULA";
    private static final String NO_LINE = "Throws `IndexOutOfBoundsException` if there is no such LINE";
    private static final String FULL_OF_TERMS = "Throws `IllegalStateException` if there would be more than 60 TERMS";
    private static final String STEPS = "Throws `IllegalArgumentException` if steps is not 1 to 3";

    private static void row(int promise, String words, Runnable test) {
        Sentences.holds("Promise " + promise + ":", words, test);
    }

    public static void main(String[] args) {
        rowsOfTerms();
        rowsOfRules();
        rowsOfFormulas();
        rowsOfProofs();
        rowsOfWhatWouldBe();
        Sentences.needEachRowThatThrows();
        Sentences.holds("Terms", "A method that throws an exception changes nothing.", ThrowsRowsTest::changesNothing);
        Sentences.holds("Terms", "If several exceptions apply, the one that is named first is thrown.",
                ThrowsRowsTest::namedFirst);
        Sentences.end();
    }

    // ---- what they share

    /** Something of everything: RULES, EQUATIONS, one put ASIDE, FORMULAS and LINES; the RULE 0 rewrites the TERM 1. */
    private static Bench rich() {
        Bench b = new Bench().fillTerms(18).ruled("20", "0", "4xx", "0", "x", "y");
        b.waits("44xyz", "4x4yz");
        b.waits("501", "0");
        b.atoms();
        int same = b.equality("1", "31");
        b.formula(Bench.IMPLIES, b.formula(Bench.AND, 0, 1), same);
        b.formula(Bench.NOT, 5, 0);
        b.fillLines(2);
        b.line(same, 8, 0, 0);
        b.line(0, 9, 0, 0);
        return b;
    }

    private static Bench stopped() {
        Bench b = new Bench().fillRules(8);
        b.waits("20", "0");
        b.complete(1);
        return b;
    }

    private static void allowed(Supplier<Bench> start, Consumer<Bench> call) {
        Bench b = start.get();
        Sentences.due("no exception", () -> {
            call.accept(b);
            return "no exception";
        });
    }

    private static void refused(Class<?> want, Supplier<Bench> start, Consumer<Bench> call) {
        Sentences.refused(want, start, call);
    }

    /** An index below count is allowed, the others are refused; on an empty object all of them. */
    private static void noSuch(ToIntFunction<Bench> count, BiConsumer<Bench, Integer> call) {
        int many = count.applyAsInt(rich());
        allowed(ThrowsRowsTest::rich, b -> call.accept(b, 0));
        allowed(ThrowsRowsTest::rich, b -> call.accept(b, many - 1));
        for (int odd : new int[] {many, many + 1, many + 64, -1, Sentences.LOW, Sentences.HIGH}) {
            refused(Sentences.INDEX, ThrowsRowsTest::rich, b -> call.accept(b, odd));
        }
        for (int odd : new int[] {0, 1, -1, Sentences.LOW, Sentences.HIGH}) {
            refused(Sentences.INDEX, Bench::new, b -> call.accept(b, odd));
        }
    }

    private static void noTerm(BiConsumer<Bench, Integer> call) {
        noSuch(Bench::terms, call);
    }

    private static void noRule(BiConsumer<Bench, Integer> call) {
        noSuch(b -> b.many(0), call);
    }

    private static void noFormula(BiConsumer<Bench, Integer> call) {
        noSuch(Bench::formulas, call);
    }

    private static void noLine(BiConsumer<Bench, Integer> call) {
        noSuch(b -> 4, call);
    }

    /** From the least to the most is allowed, the others are refused. */
    private static void from(int least, int most, BiConsumer<Bench, Integer> call) {
        for (int value = least; value <= most; value++) {
            int asked = value;
            allowed(ThrowsRowsTest::rich, b -> call.accept(b, asked));
        }
        for (int odd : new int[] {least - 1, most + 1, Sentences.LOW, Sentences.HIGH}) {
            refused(Sentences.ARGUMENT, ThrowsRowsTest::rich, b -> call.accept(b, odd));
        }
    }

    /** With 59 TERMS one more is allowed, with 60 none is. */
    private static void fullOfTerms(Consumer<Bench> before, Consumer<Bench> call) {
        for (int most = 58; most <= 60; most++) {
            int terms = most;
            Supplier<Bench> start = () -> {
                Bench b = new Bench();
                before.accept(b);
                return b.fillTerms(terms);
            };
            if (terms < 60) {
                allowed(start, call);
                Bench b = start.get();
                call.accept(b);
                Sentences.due(terms + 1, b::terms);
            } else {
                refused(Sentences.STATE, start, call);
            }
        }
    }

    // ---- terms

    private static void rowsOfTerms() {
        row(2, "Throws `IllegalArgumentException` if variable is not 0 to 3", () -> from(0, 3, Bench::variable));
        row(2, FULL_OF_TERMS, () -> {
            for (int variable = 0; variable <= 3; variable++) {
                int asked = variable;
                fullOfTerms(b -> { }, b -> b.variable(asked));
            }
        });
        row(3, NO_TERM + " (a sign that is not 0 to 5 asks for none)", ThrowsRowsTest::noPartOfTerm);
        row(3, "Throws `IllegalArgumentException` if sign is not 0 to 5, or its SIZE would be above 12",
                ThrowsRowsTest::noSuchSignOrTooLong);
        row(3, FULL_OF_TERMS, () -> {
            fullOfTerms(b -> { }, b -> b.term(1, 0, 0));
            fullOfTerms(b -> { }, b -> b.term(2, 12, 0));
            fullOfTerms(b -> { }, b -> b.term(3, 0, 0));
            fullOfTerms(b -> { }, b -> b.term(4, 0, 9));
            fullOfTerms(b -> { }, b -> b.term(5, 9, 0));
        });
        row(5, NO_TERM, () -> {
            noTerm((b, term) -> b.ofTerm(term, 0));
            noTerm((b, term) -> b.ofTerm(term, 1));
        });
        row(5, "Throws `IllegalArgumentException` if what is not 0 or 1", () -> {
            from(0, 1, (b, what) -> b.ofTerm(0, what));
            from(0, 1, (b, what) -> b.ofTerm(17, what));
        });
        row(6, NO_TERM + ", or PLACE", () -> {
            noTerm((b, term) -> b.at(term, 0));
            for (int size = 1; size <= 12; size++) {
                int term = size - 1;
                allowed(ThrowsRowsTest::rich, b -> b.at(term, term));
                for (int odd : new int[] {size, size + 1, size + 16, -1, Sentences.LOW, Sentences.HIGH}) {
                    refused(Sentences.INDEX, ThrowsRowsTest::rich, b -> b.at(term, odd));
                }
            }
        });
        row(7, NO_TERM, () -> {
            noTerm((b, term) -> b.compare(term, 0));
            noTerm((b, term) -> b.compare(0, term));
        });
        row(8, NO_TERM, () -> {
            noTerm((b, term) -> b.fits(term, 0));
            noTerm((b, term) -> b.fits(0, term));
        });
        row(9, NO_TERM, () -> {
            noTerm((b, term) -> b.meet(term, 0));
            noTerm((b, term) -> b.meet(0, term));
        });
    }

    private static void noPartOfTerm() {
        for (int sign = 2; sign <= 5; sign++) {
            int asked = sign;
            // the last of 18 TERMS is 4 20 20
            Supplier<Bench> start = () -> new Bench().fillTerms(18);
            allowed(start, b -> b.term(asked, 17, 0));
            for (int odd : new int[] {18, 19, 60, -1, Sentences.LOW, Sentences.HIGH}) {
                refused(Sentences.INDEX, start, b -> b.term(asked, odd, 0));
                if (asked >= 4) {
                    allowed(start, b -> b.term(asked, 0, 17));
                    refused(Sentences.INDEX, start, b -> b.term(asked, 0, odd));
                    refused(Sentences.INDEX, start, b -> b.term(asked, odd, odd));
                } else {
                    allowed(start, b -> b.term(asked, 0, odd));
                }
            }
            refused(Sentences.INDEX, Bench::new, b -> b.term(asked, 0, 0));
        }
        for (int sign = 0; sign <= 1; sign++) {
            int asked = sign;
            for (int odd : new int[] {0, -1, 60, Sentences.LOW, Sentences.HIGH}) {
                allowed(Bench::new, b -> b.term(asked, odd, odd));
            }
        }
        // one that is no sign asks for none
        for (int odd : new int[] {-1, 6, Sentences.LOW, Sentences.HIGH}) {
            refused(Sentences.ARGUMENT, Bench::new, b -> b.term(odd, 0, 0));
            refused(Sentences.ARGUMENT, ThrowsRowsTest::rich, b -> b.term(odd, 99, -1));
        }
    }

    private static void noSuchSignOrTooLong() {
        from(0, 5, (b, sign) -> b.term(sign, 0, 0));
        // the TERM n has the SIZE n + 1
        for (int sign = 2; sign <= 3; sign++) {
            int asked = sign;
            allowed(ThrowsRowsTest::rich, b -> b.term(asked, 10, 0));
            refused(Sentences.ARGUMENT, ThrowsRowsTest::rich, b -> b.term(asked, 11, 0));
        }
        for (int sign = 4; sign <= 5; sign++) {
            int asked = sign;
            for (int part = 0; part <= 9; part++) {
                int a = part;
                allowed(ThrowsRowsTest::rich, b -> b.term(asked, a, 9 - a));
                refused(Sentences.ARGUMENT, ThrowsRowsTest::rich, b -> b.term(asked, a, 10 - a));
            }
            refused(Sentences.ARGUMENT, ThrowsRowsTest::rich, b -> b.term(asked, 10, 0));
            refused(Sentences.ARGUMENT, ThrowsRowsTest::rich, b -> b.term(asked, 11, 11));
        }
    }

    // ---- equations and rules

    private static void rowsOfRules() {
        row(10, NO_TERM, () -> {
            noTerm((b, term) -> b.equation(term, 0));
            noTerm((b, term) -> b.equation(0, term));
            refused(Sentences.INDEX, ThrowsRowsTest::stopped, b -> b.equation(0, b.terms()));
        });
        row(10, "Throws `IllegalStateException` if 20 wait", () -> {
            allowed(() -> new Bench().waitIdly(19), b -> b.equation(0, 0));
            refused(Sentences.STATE, () -> new Bench().waitIdly(20), b -> b.equation(0, 0));
            allowed(() -> new Bench().fillRules(8).waitIdly(19), b -> b.equation(0, 1));
            refused(Sentences.STATE, () -> new Bench().fillRules(8).waitIdly(20), b -> b.equation(1, 0));
            // while completing has stopped, too: it has not begun anew
            allowed(() -> stopped().waitIdly(18), b -> b.equation(0, 0));
            refused(Sentences.STATE, ThrowsRowsTest::stoppedWithTwenty, b -> b.equation(0, 0));
            Bench b = stoppedWithTwenty();
            Sentences.due(Sentences.STATE, () -> b.equation(0, 0));
            Sentences.due("8 20 0 8 1", b::counts);
        });
        row(11, STEPS, () -> from(1, 3, Bench::complete));
        row(12, NO_RULE, () -> {
            noRule(Bench::dropRule);
            allowed(() -> new Bench().fillRules(8), b -> b.dropRule(7));
            refused(Sentences.INDEX, () -> new Bench().fillRules(8), b -> b.dropRule(8));
        });
        row(13, "Throws `IllegalArgumentException` if what is not 0 to 4", () -> from(0, 4, Bench::many));
        row(14, NO_RULE, () -> {
            noRule((b, rule) -> b.rule(rule, true));
            noRule((b, rule) -> b.rule(rule, false));
        });
        row(14, FULL_OF_TERMS, () -> {
            fullOfTerms(b -> b.ruled("3x", "x", "423x0", "0"), b -> b.rule(1, true));
            fullOfTerms(b -> b.ruled("3x", "x", "523x1", "423x1"), b -> b.rule(1, false));
        });
        row(15, NO_TERM, () -> noTerm(Bench::normal));
        row(15, FULL_OF_TERMS, () -> fullOfTerms(b -> {
            b.built("523x1");
            b.ruled("3x", "x");
        }, b -> b.normal(4)));
        row(16, NO_TERM, () -> noTerm(Bench::steps));
        row(17, NO_TERM, () -> {
            noTerm((b, term) -> b.areEqual(term, 0));
            noTerm((b, term) -> b.areEqual(0, term));
        });
        row(18, NO_RULE, () -> {
            noRule((b, rule) -> b.overlaps(rule, 0));
            noRule((b, rule) -> b.overlaps(0, rule));
        });
    }

    /** Stopped by the 8 RULES that there are, with 20 EQUATIONS that wait. */
    private static Bench stoppedWithTwenty() {
        Bench b = new Bench().fillRules(8);
        b.waits("20", "0");
        b.waitIdly(19);
        b.complete(1);
        return b;
    }

    // ---- formulas

    private static void rowsOfFormulas() {
        row(20, NO_TERM + ", or FORMULA, as kind asks for", ThrowsRowsTest::noPartOfFormula);
        row(20, "Throws `IllegalArgumentException` if kind is not 0 to 5, a is not 0 to 5 with 0, or it would have"
                + " more than 6 of those kinds", ThrowsRowsTest::noSuchKindOrTooMany);
        row(20, "Throws `IllegalStateException` if there would be more than 40", () -> {
            int[][] more = {{Bench.EQUALITY, 0, 0}, {Bench.NOT, 0, 0}, {Bench.IMPLIES, 0, 0}, {Bench.IMPLIES, 5, 38}};
            for (int[] one : more) {
                for (int many = 38; many <= 40; many++) {
                    int formulas = many;
                    Supplier<Bench> start = () -> new Bench().fillTerms(1).fillFormulas(formulas);
                    if (many == 40) {
                        refused(Sentences.STATE, start, b -> b.formula(one[0], one[1], one[2]));
                        allowed(start, b -> b.formula(Bench.AND, 0, 0));
                    } else if (one[2] < many) {
                        allowed(start, b -> b.formula(one[0], one[1], one[2]));
                    }
                }
            }
        });
        row(22, NO_FORMULA, () -> noFormula(Bench::isProved));
        row(23, NO_FORMULA, () -> {
            for (int what = 0; what <= 2; what++) {
                int asked = what;
                noFormula((b, formula) -> b.proof(formula, asked));
            }
        });
        row(23, "Throws `IllegalArgumentException` if what is not 0 to 2", () -> {
            from(0, 2, (b, what) -> b.proof(0, what));
            from(0, 2, (b, what) -> b.proof(8, what));
        });
    }

    private static void noPartOfFormula() {
        noTerm((b, term) -> b.formula(Bench.EQUALITY, term, 0));
        noTerm((b, term) -> b.formula(Bench.EQUALITY, 0, term));
        noFormula((b, formula) -> b.formula(Bench.NOT, formula, 0));
        for (int kind = Bench.AND; kind <= Bench.IMPLIES; kind++) {
            int asked = kind;
            noFormula((b, formula) -> b.formula(asked, formula, 0));
            noFormula((b, formula) -> b.formula(asked, 0, formula));
        }
        // not looked at with 0 and 2
        for (int odd : new int[] {99, -1, Sentences.LOW, Sentences.HIGH}) {
            allowed(Bench::new, b -> b.formula(Bench.ATOM, 5, odd));
            allowed(() -> new Bench().atoms(), b -> b.formula(Bench.NOT, 5, odd));
            refused(Sentences.ARGUMENT, Bench::new, b -> b.formula(6, odd, odd));
            refused(Sentences.ARGUMENT, Bench::new, b -> b.formula(-1, odd, odd));
        }
    }

    private static Bench six() {
        Bench b = new Bench().atoms();
        for (int i = 0; i < 6; i++) {
            b.formula(Bench.NOT, 5 + i, 0);
        }
        return b;
    }

    private static void noSuchKindOrTooMany() {
        from(0, 5, (b, kind) -> b.formula(kind, 0, 0));
        from(0, 5, (b, atom) -> b.formula(Bench.ATOM, atom, 99));
        // the FORMULA 5 + k has k of those kinds
        for (int k = 0; k <= 6; k++) {
            int a = 5 + k;
            if (k < 6) {
                allowed(ThrowsRowsTest::six, b -> b.formula(Bench.NOT, a, 0));
            } else {
                refused(Sentences.ARGUMENT, ThrowsRowsTest::six, b -> b.formula(Bench.NOT, a, 0));
            }
            for (int kind = Bench.AND; kind <= Bench.IMPLIES; kind++) {
                int asked = kind;
                if (k < 6) {
                    allowed(ThrowsRowsTest::six, b -> b.formula(asked, a, 15 - a));
                }
                refused(Sentences.ARGUMENT, ThrowsRowsTest::six, b -> b.formula(asked, a, 16 - a));
                refused(Sentences.ARGUMENT, ThrowsRowsTest::six, b -> b.formula(asked, 11, a));
            }
        }
    }

    // ---- proofs

    private static void rowsOfProofs() {
        row(24, NO_FORMULA + ", or LINE, as reason asks for (one that is not 0 to 9 asks for none)",
                ThrowsRowsTest::noFormulaOrLine);
        row(24, "Throws `IllegalArgumentException` if reason is not 0 to 9", () -> {
            from(0, 9, (b, reason) -> b.line(0, reason, 0, 0));
            // one that is not asks for no LINE
            for (int odd : new int[] {-1, 10, Sentences.LOW, Sentences.HIGH}) {
                refused(Sentences.ARGUMENT, () -> new Bench().atoms(), b -> b.line(0, odd, 5, -5));
            }
        });
        row(24, "Throws `IllegalStateException` if there are 24", () -> {
            for (int reason = 0; reason <= 9; reason++) {
                int asked = reason;
                allowed(() -> new Bench().atoms().fillLines(23), b -> b.line(0, asked, 22, 22));
                refused(Sentences.STATE, () -> new Bench().atoms().fillLines(24), b -> b.line(0, asked, 23, 23));
            }
        });
        row(25, "Throws `IllegalStateException` if there is none", () -> {
            allowed(() -> new Bench().atoms().fillLines(1), Bench::unline);
            allowed(() -> new Bench().atoms().fillLines(24), Bench::unline);
            refused(Sentences.STATE, Bench::new, Bench::unline);
            refused(Sentences.STATE, () -> new Bench().atoms().fillTerms(5), Bench::unline);
            refused(Sentences.STATE, () -> {
                Bench b = new Bench().atoms().fillLines(1);
                b.unline();
                return b;
            }, Bench::unline);
        });
        row(26, NO_LINE, () -> noLine(Bench::isRight));
        row(27, NO_LINE, () -> noLine(Bench::given));
    }

    private static void noFormulaOrLine() {
        for (int reason = 0; reason <= 9; reason++) {
            int asked = reason;
            noFormula((b, formula) -> b.line(formula, asked, 0, 0));
            boolean isX = reason != 0 && reason != 8;
            boolean isY = reason == 1 || reason == 2 || reason == 7;
            if (isX) {
                noLine((b, x) -> b.line(0, asked, x, 0));
            }
            if (isY) {
                noLine((b, y) -> b.line(0, asked, 0, y));
            }
            for (int odd : new int[] {4, 24, -1, Sentences.LOW, Sentences.HIGH}) {
                if (!isX) {
                    allowed(ThrowsRowsTest::rich, b -> b.line(0, asked, odd, 0));
                }
                if (!isY) {
                    allowed(ThrowsRowsTest::rich, b -> b.line(0, asked, 0, odd));
                }
            }
        }
    }

    // ---- what would be

    private static void rowsOfWhatWouldBe() {
        row(29, STEPS, () -> from(1, 3, Bench::rulesAfter));
        row(30, NO_RULE + ", or TERM", () -> {
            noRule((b, rule) -> b.sizeWithout(rule, 0));
            noTerm((b, term) -> b.sizeWithout(0, term));
            refused(Sentences.INDEX, () -> new Bench().fillTerms(3), b -> b.sizeWithout(0, 0));
        });
    }

    // ---- the two sentences

    /** All of these are refused by rich(), by stopped objects, and by full ones. */
    private static void refuseMuch(Bench b, int terms, int formulas) {
        Sentences.due(Sentences.ARGUMENT, () -> b.variable(4));
        Sentences.due(Sentences.INDEX, () -> b.term(2, terms, 0));
        Sentences.due(Sentences.ARGUMENT, () -> b.term(6, 0, 0));
        Sentences.due(Sentences.ARGUMENT, () -> b.ofTerm(0, 2));
        Sentences.due(Sentences.INDEX, () -> b.at(0, 12));
        Sentences.due(Sentences.INDEX, () -> b.compare(0, terms));
        Sentences.due(Sentences.INDEX, () -> b.fits(terms, 0));
        Sentences.due(Sentences.INDEX, () -> b.meet(0, -1));
        Sentences.due(Sentences.INDEX, () -> b.equation(0, terms));
        Sentences.due(Sentences.ARGUMENT, () -> b.complete(4));
        Sentences.due(Sentences.ARGUMENT, () -> b.complete(0));
        Sentences.due(Sentences.INDEX, () -> b.dropRule(8));
        Sentences.due(Sentences.INDEX, () -> b.dropRule(-1));
        Sentences.due(Sentences.ARGUMENT, () -> b.many(5));
        Sentences.due(Sentences.INDEX, () -> b.rule(8, true));
        Sentences.due(Sentences.INDEX, () -> b.normal(terms));
        Sentences.due(Sentences.INDEX, () -> b.steps(-1));
        Sentences.due(Sentences.INDEX, () -> b.areEqual(terms, 0));
        Sentences.due(Sentences.INDEX, () -> b.overlaps(0, 8));
        Sentences.due(Sentences.INDEX, () -> b.formula(Bench.NOT, formulas, 0));
        Sentences.due(Sentences.ARGUMENT, () -> b.formula(Bench.ATOM, 6, 0));
        Sentences.due(Sentences.ARGUMENT, () -> b.formula(6, 0, 0));
        Sentences.due(Sentences.INDEX, () -> b.isProved(formulas));
        Sentences.due(Sentences.ARGUMENT, () -> b.proof(0, 3));
        Sentences.due(Sentences.INDEX, () -> b.line(formulas, 0, 0, 0));
        Sentences.due(Sentences.INDEX, () -> b.line(0, 9, 24, 0));
        Sentences.due(Sentences.ARGUMENT, () -> b.line(0, 10, 0, 0));
        Sentences.due(Sentences.INDEX, () -> b.isRight(24));
        Sentences.due(Sentences.INDEX, () -> b.given(-1));
        Sentences.due(Sentences.ARGUMENT, () -> b.rulesAfter(4));
        Sentences.due(Sentences.INDEX, () -> b.sizeWithout(8, 0));
        Sentences.due(Sentences.INDEX, () -> b.sizeWithout(0, terms));
    }

    private static void changesNothing() {
        Bench rich = rich();
        refuseMuch(rich, rich.terms(), rich.formulas());
        Sentences.due(rich().story(), rich::story);
        Supplier<Bench> stoppedWithMore = () -> stopped().atoms().fillLines(3);
        Bench stopped = stoppedWithMore.get();
        refuseMuch(stopped, stopped.terms(), stopped.formulas());
        Sentences.due(stoppedWithMore.get().story(), stopped::story);
        Supplier<Bench> startFull = () -> full().fillLines(24);
        Bench full = startFull.get();
        refuseMuch(full, 60, 40);
        Sentences.due(Sentences.STATE, () -> full.variable(0));
        Sentences.due(Sentences.STATE, () -> full.term(3, 4, 0));
        Sentences.due(Sentences.STATE, () -> full.equation(0, 0));
        Sentences.due(Sentences.STATE, () -> full.normal(4));
        Sentences.due(Sentences.STATE, () -> full.rule(1, true));
        Sentences.due(Sentences.STATE, () -> full.formula(Bench.IMPLIES, 0, 0));
        Sentences.due(Sentences.STATE, () -> full.line(0, 0, 0, 0));
        Sentences.due(startFull.get().story(), full::story);
        // a new one
        Bench empty = new Bench();
        Sentences.due(Sentences.STATE, empty::unline);
        Sentences.due(Sentences.INDEX, () -> empty.equation(0, 0));
        Sentences.due(Sentences.INDEX, () -> empty.formula(Bench.NOT, 0, 0));
        Sentences.due(Sentences.ARGUMENT, () -> empty.complete(0));
        Sentences.due(new Bench().story(), empty::story);
    }

    /** 60 TERMS, 20 EQUATIONS, 40 FORMULAS; the TERM 4 has a NORMAL TERM, and the RULE 1 an l, that is none of the 60. */
    private static Bench full() {
        Bench b = new Bench();
        b.built("523x1");
        return b.ruled("3x", "x", "423x0", "0").fillTerms(60).waitIdly(20).fillFormulas(40);
    }

    private static void namedFirst() {
        // variable: no VARIABLE, and full
        refused(Sentences.ARGUMENT, ThrowsRowsTest::full, b -> b.variable(4));
        refused(Sentences.STATE, ThrowsRowsTest::full, b -> b.variable(3));
        namedFirstOfTerm();
        // ofTerm, equation, rule, normal
        refused(Sentences.INDEX, ThrowsRowsTest::rich, b -> b.ofTerm(b.terms(), 2));
        refused(Sentences.ARGUMENT, ThrowsRowsTest::rich, b -> b.ofTerm(0, 2));
        refused(Sentences.INDEX, ThrowsRowsTest::full, b -> b.equation(60, 0));
        refused(Sentences.INDEX, ThrowsRowsTest::full, b -> b.equation(0, -1));
        refused(Sentences.STATE, ThrowsRowsTest::full, b -> b.equation(0, 59));
        refused(Sentences.INDEX, ThrowsRowsTest::full, b -> b.rule(2, true));
        refused(Sentences.STATE, ThrowsRowsTest::full, b -> b.rule(1, true));
        refused(Sentences.INDEX, ThrowsRowsTest::full, b -> b.normal(60));
        refused(Sentences.STATE, ThrowsRowsTest::full, b -> b.normal(4));
        namedFirstOfFormula();
        // proof
        refused(Sentences.INDEX, ThrowsRowsTest::rich, b -> b.proof(b.formulas(), 3));
        refused(Sentences.ARGUMENT, ThrowsRowsTest::rich, b -> b.proof(0, 3));
        // line: no FORMULA or LINE, no REASON, and full
        Supplier<Bench> start = () -> full().fillLines(24);
        refused(Sentences.INDEX, start, b -> b.line(40, 10, 0, 0));
        refused(Sentences.INDEX, start, b -> b.line(40, 0, 0, 0));
        refused(Sentences.INDEX, start, b -> b.line(0, 3, 24, 0));
        refused(Sentences.INDEX, start, b -> b.line(0, 7, 0, 24));
        refused(Sentences.ARGUMENT, start, b -> b.line(0, 10, 24, 24));
        refused(Sentences.STATE, start, b -> b.line(0, 7, 23, 23));
    }

    private static void namedFirstOfTerm() {
        Supplier<Bench> start = () -> new Bench().fillTerms(60);
        // no TERM and too long; no TERM and full; all of them
        refused(Sentences.INDEX, ThrowsRowsTest::rich, b -> b.term(4, 11, 60));
        refused(Sentences.INDEX, ThrowsRowsTest::rich, b -> b.term(4, -1, 11));
        refused(Sentences.INDEX, start, b -> b.term(2, 60, 0));
        refused(Sentences.INDEX, start, b -> b.term(5, 11, 60));
        // no sign and full; too long and full
        refused(Sentences.ARGUMENT, start, b -> b.term(6, 60, 60));
        refused(Sentences.ARGUMENT, start, b -> b.term(-1, 0, 0));
        refused(Sentences.ARGUMENT, start, b -> b.term(2, 11, 0));
        refused(Sentences.ARGUMENT, start, b -> b.term(4, 5, 6));
        refused(Sentences.STATE, start, b -> b.term(4, 4, 5));
    }

    private static void namedFirstOfFormula() {
        // six() with as many FORMULAS as there may be; the FORMULA 11 has six of the kinds
        Supplier<Bench> start = () -> six().fillFormulas(40);
        // no FORMULA or TERM and too many kinds; no such one and full
        refused(Sentences.INDEX, ThrowsRowsTest::six, b -> b.formula(Bench.AND, 11, 12));
        refused(Sentences.INDEX, ThrowsRowsTest::six, b -> b.formula(Bench.OR, 12, 11));
        refused(Sentences.INDEX, start, b -> b.formula(Bench.AND, 11, 40));
        refused(Sentences.INDEX, start, b -> b.formula(Bench.NOT, 40, 0));
        refused(Sentences.INDEX, start, b -> b.formula(Bench.EQUALITY, 0, 0));
        // no kind, no ATOM, or too many kinds, and full
        refused(Sentences.ARGUMENT, start, b -> b.formula(6, 40, 40));
        refused(Sentences.ARGUMENT, start, b -> b.formula(-1, 0, 0));
        refused(Sentences.ARGUMENT, start, b -> b.formula(Bench.ATOM, 6, 0));
        refused(Sentences.ARGUMENT, start, b -> b.formula(Bench.NOT, 11, 0));
        refused(Sentences.ARGUMENT, start, b -> b.formula(Bench.IMPLIES, 8, 8));
        refused(Sentences.STATE, start, b -> b.formula(Bench.IMPLIES, 8, 7));
    }
}
