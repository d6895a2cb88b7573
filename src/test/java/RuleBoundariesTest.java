import java.util.function.Supplier;

/** The sentences of section 2 RULES, and of the calls on them, that name a boundary. */
public final class RuleBoundariesTest {

    // signs 3 sink through signs 2 and vanish at the 0; these have no OVERLAPS
    private static final String[] SINKING = {"32x", "23x", "30", "0"};
    private static final String TWENTY_NINE = "33332222223" + "0";
    private static final String THIRTY = "3333322222" + "0";
    private static final String THIRTY_ONE = "33333222223" + "0";

    private static void due(Object want, Supplier<?> call) {
        Sentences.due(want, call);
    }

    public static void main(String[] args) {
        Sentences.holds("Terms", "2 RULES. At most 8, each from a TERM l to a TERM r, than which it is GREATER.",
                RuleBoundariesTest::eightRules);
        Sentences.holds("Terms", "of its PLACES, the smallest one at which a RULE FITS, of several the one with the"
                + " smallest number", RuleBoundariesTest::smallestPlace);
        Sentences.holds("Terms", "It is done till no RULE FITS, at most 30 times: what it is then is its NORMAL TERM.",
                RuleBoundariesTest::thirtyTimes);
        Sentences.holds("Promise 16:", "Returns how many times it is REWRITTEN till that.",
                RuleBoundariesTest::stepsFromNone);
        Sentences.holds("Terms", "EQUATIONS: at most 20 wait, in a row.", RuleBoundariesTest::twentyWait);
        Sentences.holds("Terms", "A STEP of completing takes the first one", RuleBoundariesTest::takesTheFirst);
        Sentences.holds("Terms", "both sides become their NORMAL TERMS; if these are the same, that was it.",
                RuleBoundariesTest::sidesTheSame);
        Sentences.holds("Terms", "Otherwise, if neither is GREATER, it is put ASIDE, and that was it.",
                RuleBoundariesTest::putAside);
        Sentences.holds("Terms", "Otherwise it becomes a RULE, from the GREATER side, the last one",
                RuleBoundariesTest::becomesRule);
        Sentences.holds("Terms", "then each RULE ahead of it whose l it can REWRITE (it alone, at some PLACE) is taken"
                + " away, from the first one on, and waits as an EQUATION, at the end", RuleBoundariesTest::takenAway);
        Sentences.holds("Terms", "then, RULE by RULE, from the first one on, the last one too: all OVERLAPS of the"
                + " last RULE into that one are put at the end, then all of that one into the last RULE (with itself"
                + " only once).", RuleBoundariesTest::orderOfOverlaps);
        Sentences.holds("Terms", "for each PLACE of l of b at which there is no VARIABLE, by numbers (not the PLACE 0,"
                + " if both are one RULE)", RuleBoundariesTest::placesOfOverlaps);
        Sentences.holds("Terms", "In it VARIABLES are numbered anew, from 0, as they come, the first side first; with"
                + " more than 4, it is left out.", RuleBoundariesTest::variablesOfOverlaps);
        Sentences.holds("Terms", "It is left out, too, if its sides are the same", RuleBoundariesTest::sameSides);
        Sentences.holds("Terms", "or the SIZE of a side is above 12.", RuleBoundariesTest::sizesOfOverlaps);
        Sentences.holds("Terms", "A STEP stops completing (no STEP is done any more then, till it begins anew)",
                RuleBoundariesTest::noStepAnyMore);
        Sentences.holds("Terms", "if there would be more than 8 RULES", RuleBoundariesTest::stopsByRules);
        Sentences.holds("Terms", "or more than 20 EQUATIONS", RuleBoundariesTest::stopsByEquations);
        Sentences.holds("Terms", "at any time in it (also for a while)", RuleBoundariesTest::stopsForAWhile);
        Sentences.holds("Terms", "it is undone then, and the EQUATION is the first one again",
                RuleBoundariesTest::undone);
        Sentences.holds("Promise 10:", "Lets an EQUATION wait, behind the others. If completing had stopped, it begins"
                + " anew.", RuleBoundariesTest::beginsAnew);
        Sentences.holds("Promise 11:", "how many STEPS at most, as long as an EQUATION waits",
                RuleBoundariesTest::stepsAtMost);
        Sentences.holds("Promise 12:", "Takes a RULE away; those behind it move up.", RuleBoundariesTest::dropped);
        Sentences.holds("Promise 13:", "0 RULES, 1 EQUATIONS that wait, 2 those that were put ASIDE ever, 3 STEPS that"
                + " were done ever (those that stopped it not), 4 1 if completing has stopped, otherwise 0",
                RuleBoundariesTest::counted);
        Sentences.holds("Promise 18:", "of the first one into the other one, or into itself (those that are left out,"
                + " not)", RuleBoundariesTest::overlapsChangeNothing);
        Sentences.holds("Promise 19:", "Returns the mean SIZE of l of all RULES, not cut; 0 without any.",
                RuleBoundariesTest::meanSize);
        Sentences.holds("Promise 29:", "Returns how many RULES there would be behind them.",
                RuleBoundariesTest::rulesAfter);
        Sentences.holds("Promise 30:", "Returns the SIZE of the NORMAL TERM that it would have without that RULE.",
                RuleBoundariesTest::sizeWithout);
        Sentences.end();
    }

    // ---- RULES, and what they REWRITE

    private static void eightRules() {
        Bench b = new Bench().fillRules(7);
        due("7 0 0 7 0", b::counts);
        b.waits("511", "0");
        due(8, () -> b.complete(1));
        due("8 0 0 8 0", b::counts);
        due("511", () -> b.text(b.rule(7, true)));
        due(Sentences.INDEX, () -> b.rule(8, true));
        b.waits("31", "0");
        due(8, () -> b.complete(1));
        due("8 1 0 8 1", b::counts);
        due(Sentences.INDEX, () -> b.rule(8, true));
        // l is GREATER than r, whichever side it was
        Bench both = new Bench().ruled("30", "20", "21", "31");
        due("30>20 31>21", both::rules);
        due(1, () -> both.compare(both.rule(0, true), both.rule(0, false)));
        due(1, () -> both.compare(both.rule(1, true), both.rule(1, false)));
    }

    private static String normalText(Bench b, String text) {
        return b.text(b.normal(b.built(text)));
    }

    private static void smallestPlace() {
        // 320: the PLACE 0 by the RULE 1, not the PLACE 1 by the RULE 0
        Bench place = new Bench().ruled("20", "1", "32x", "x");
        due("20>1 32x>x", place::rules);
        due("0", () -> normalText(place, "320"));
        due(1, () -> place.steps(place.built("320")));
        // far inside the longest TERM
        due(Bench.chain('2', 10, "1"), () -> normalText(place, Bench.chain('2', 10, "20")));
        due(1, () -> place.steps(place.built(Bench.chain('2', 10, "20"))));
        // at one PLACE the smaller number, in both orders
        Bench number = new Bench().ruled("40x", "x", "4x1", "0");
        due("1", () -> normalText(number, "401"));
        Bench turned = new Bench().ruled("4x1", "0", "40x", "x");
        due("0", () -> normalText(turned, "401"));
    }

    private static void thirtyTimes() {
        Bench b = new Bench().ruled(SINKING);
        due("2 0 0 2 0", b::counts);
        int less = b.built(TWENTY_NINE);
        int most = b.built(THIRTY);
        int more = b.built(THIRTY_ONE);
        due(29, () -> b.steps(less));
        due(30, () -> b.steps(most));
        due(30, () -> b.steps(more));
        due("2222220", () -> b.text(b.normal(less)));
        due("222220", () -> b.text(b.normal(most)));
        // one more would make it 222220
        due("2222230", () -> b.text(b.normal(more)));
        due(1, () -> b.steps(b.normal(more)));
        int end = b.built("222220");
        due(true, () -> b.areEqual(most, end));
        due(false, () -> b.areEqual(more, end));
        // .. and of what it is after 30 times the NORMAL TERM is 222220
        due(false, () -> b.areEqual(more, b.normal(more)));
        int mostTrue = b.formula(Bench.EQUALITY, most, end);
        int moreTrue = b.formula(Bench.EQUALITY, more, end);
        due(true, () -> b.isProved(mostTrue));
        due(false, () -> b.isProved(moreTrue));
        // 36 would be needed
        due(30, () -> b.steps(b.built("33333322222" + "0")));
        // what a STEP makes of the sides ends there, too
        Bench same = new Bench().ruled(SINKING);
        same.waits(THIRTY, "222220");
        due(2, () -> same.complete(1));
        due("2 0 0 3 0", same::counts);
        Bench other = new Bench().ruled(SINKING);
        other.waits("222220", THIRTY_ONE);
        due(3, () -> other.complete(1));
        due("32x>23x 30>0 2222230>222220", other::rules);
    }

    private static void stepsFromNone() {
        Bench b = new Bench();
        int term = b.built(THIRTY);
        due(0, () -> b.steps(term));
        due(term, () -> b.normal(term));
        b.ruled(SINKING);
        due(30, () -> b.steps(term));
        due(0, () -> b.steps(b.built("0")));
        due(0, () -> b.steps(b.built("3x")));
        due(1, () -> b.steps(b.built("30")));
        due(2, () -> b.steps(b.built("330")));
        due(2, () -> b.steps(b.built("320")));
        // none of the asking before has changed it
        due(30, () -> b.steps(term));
        b.dropRule(1);
        due(25, () -> b.steps(term));
        b.dropRule(0);
        due(0, () -> b.steps(term));
    }

    // ---- EQUATIONS, and STEPS

    private static void twentyWait() {
        Bench b = new Bench();
        int zero = b.built("0");
        int one = b.built("1");
        for (int waiting = 1; waiting <= 20; waiting++) {
            due(waiting, () -> b.equation(zero, one));
        }
        due(Sentences.STATE, () -> b.equation(zero, one));
        due(20, () -> b.many(1));
        for (int waiting : new int[] {20, 19, 17}) {
            int asked = waiting;
            Supplier<Bench> start = () -> new Bench().waitIdly(asked);
            if (waiting == 20) {
                Sentences.refused(Sentences.STATE, start, full -> full.equation(0, 0));
            } else {
                due(waiting + 1, () -> start.get().equation(0, 0));
            }
        }
        // one that was taken makes room for one
        due(1, () -> b.complete(1));
        due(20, () -> b.equation(one, zero));
        due(Sentences.STATE, () -> b.equation(one, zero));
    }

    private static void takesTheFirst() {
        // in the order in which they came to wait
        Bench b = new Bench();
        String[] ones = {"511", "400", "501", "31"};
        for (String one : ones) {
            b.waits(one, "0");
        }
        StringBuilder rules = new StringBuilder();
        for (int i = 0; i < ones.length; i++) {
            due(i + 1, () -> b.complete(1));
            rules.append(i == 0 ? "" : " ").append(ones[i]).append(">0");
            due(rules.toString(), b::rules);
            int left = ones.length - 1 - i;
            due(left, () -> b.many(1));
        }
        // the last of 20, behind 19
        Bench last = new Bench().waitIdly(19);
        last.waits("31", "0");
        for (int i = 0; i < 6; i++) {
            due(0, () -> last.complete(3));
        }
        due(0, () -> last.complete(1));
        due(1, () -> last.complete(1));
        due("1 0 0 20 0", last::counts);
    }

    private static void sidesTheSame() {
        Bench b = new Bench();
        b.waits("x", "x");
        due(0, () -> b.complete(1));
        due("0 0 0 1 0", b::counts);
        b.ruled("3x", "x");
        b.waits("33y", "3y");
        due(1, () -> b.complete(1));
        due("1 0 0 3 0", b::counts);
        // no longer the same, once the RULE has gone
        b.dropRule(0);
        b.waits("33y", "3y");
        due(1, () -> b.complete(1));
        due("33y>3y", b::rules);
    }

    private static void putAside() {
        String[][] neither = {{"x", "y"}, {"x", "0"}, {"4xy", "4yx"}, {"222x", "4xx"}, {"2x", "2y"}, {"4x1", "400"}};
        Bench b = new Bench();
        for (int i = 0; i < neither.length; i++) {
            b.waits(neither[i][0], neither[i][1]);
            due(0, () -> b.complete(1));
            int done = i + 1;
            due("0 0 " + done + " " + done + " 0", b::counts);
        }
        // by the NORMAL TERMS: 43xy and 4yx are put ASIDE behind 3x>x, a RULE ahead of it
        Bench before = new Bench();
        before.waits("43xy", "4yx");
        due(1, () -> before.complete(1));
        due("1 0 0 1 0", before::counts);
        Bench behind = new Bench().ruled("3x", "x");
        behind.waits("43xy", "4yx");
        due(1, () -> behind.complete(1));
        due("1 0 1 2 0", behind::counts);
    }

    private static void becomesRule() {
        due("3x>x", () -> new Bench().ruled("3x", "x").rules());
        due("3x>x", () -> new Bench().ruled("x", "3x").rules());
        due("1>0", () -> new Bench().ruled("0", "1").rules());
        due("2x>0", () -> new Bench().ruled("0", "2x").rules());
        String longest = Bench.chain('2', 11, "1");
        String same = Bench.chain('2', 11, "0");
        due(longest + ">" + same, () -> new Bench().ruled(same, longest).rules());
        // the VARIABLES stay as they were
        due("54zyy>4yz", () -> new Bench().ruled("4yz", "54zyy").rules());
        // of the NORMAL TERMS, the last one
        due("3x>x 20>1", () -> new Bench().ruled("3x", "x", "331", "3230").rules());
    }

    private static void takenAway() {
        // at the PLACES 1 and 2, from the first one on, at the end, and by l alone: 501>20 stays
        Bench b = new Bench().ruled("5200", "0", "501", "20", "5121", "1", "400", "0");
        due("5200>0 501>20 5121>1 400>0", b::rules);
        b.waits("2x", "x");
        b.waits("410", "0");
        due(3, () -> b.complete(1));
        due("501>20 400>0 2x>x", b::rules);
        due("3 3 0 5 0", b::counts);
        b.complete(3);
        due("501>20 400>0 2x>x 410>0 500>0 511>1", b::rules);
        // at the PLACE 0, and at the last PLACE
        due("4xy>x", () -> new Bench().ruled("4xx", "x", "4xy", "x").rules());
        due("1>0", () -> new Bench().ruled("401", "0", "1", "0").rules());
        due("1>0", () -> new Bench().ruled(Bench.chain('2', 11, "1"), "0", "1", "0").rules());
        // all of seven, none of them
        Bench all = new Bench().ruled("400", "0", "401", "0", "410", "0", "411", "0", "4030", "0", "4031", "0",
                "4130", "0", "4xy", "0");
        due("1 7 0 8 0", all::counts);
        due(1, () -> all.complete(3));
        due("4xy>0", all::rules);
        due("8 0 0 8 0", () -> new Bench().fillRules(7).ruled("3x", "x").counts());
        // it alone: 2222230 stays, though 30>0, a RULE ahead of it, can REWRITE it
        Bench alone = new Bench().ruled(SINKING).ruled("222220", THIRTY_ONE);
        due("3 1 0 3 0", alone::counts);
        alone.ruled("400", "0").complete(1);
        due("32x>23x 30>0 2222230>222220 400>0", alone::rules);
        due("4 0 0 5 0", alone::counts);
    }

    private static void orderOfOverlaps() {
        // the last RULE has one OVERLAP into each of the three, and each of the two ahead one into it
        Bench b = new Bench().ruled("24xy", "1", "34xy", "1");
        due("2 0 0 2 0", b::counts);
        b.ruled("44wx52y3z", "0");
        due("3 5 0 3 0", b::counts);
        for (int i = 0; i < 4; i++) {
            b.complete(1);
        }
        due("24xy>1 34xy>1 44wx52y3z>0 20>1 44wx513y>0 30>1 44wx52y1>0", b::rules);
        for (int i = 0; i < 7; i++) {
            b.dropRule(0);
        }
        b.complete(1);
        due("4052w3x>0", b::rules);
        // behind the RULES that were taken away: 52200 first, then 2x = 3x
        Bench behind = new Bench().ruled("23x", "x", "52200", "0");
        behind.waits("22x", "x");
        behind.complete(1);
        due("23x>x 22x>x", behind::rules);
        due("2 2 0 3 0", behind::counts);
        behind.complete(1);
        due("23x>x 22x>x 500>0", behind::rules);
        // with itself only once
        due("1 1 0 1 0", () -> new Bench().ruled("22x", "3x").counts());
        due("1 1 0 1 0", () -> new Bench().ruled("44xyz", "4x4yz").counts());
    }

    private static void placesOfOverlaps() {
        // of two RULES at the PLACE 0, either way round: 0 = 1 and 1 = 0
        Bench ends = new Bench().ruled("40x", "x", "4x1", "0");
        due("2 2 0 2 0", ends::counts);
        due(1, () -> ends.overlaps(0, 1));
        due(1, () -> ends.overlaps(1, 0));
        due(0, () -> ends.overlaps(0, 0));
        due(0, () -> ends.overlaps(1, 1));
        // none at a VARIABLE
        Bench variable = new Bench().ruled("2x", "x", "30", "1", "4xy", "0");
        due("3 0 0 3 0", variable::counts);
        // by numbers: at the PLACE 1, then at the PLACE 3
        Bench two = new Bench().ruled("42x2y", "0", "20", "1");
        due("2 2 0 2 0", two::counts);
        due(2, () -> two.overlaps(1, 0));
        due(0, () -> two.overlaps(0, 1));
        two.complete(1);
        two.complete(1);
        due("42x2y>0 20>1 412w>0 42w1>0", two::rules);
        // of one RULE at each PLACE but the PLACE 0
        due(2, () -> new Bench().ruled("222x", "3x").overlaps(0, 0));
        due(10, () -> new Bench().ruled(Bench.chain('2', 11, "x"), "3x").overlaps(0, 0));
    }

    /** How many there are of the RULE one into the other one, and how many EQUATIONS wait; with any VARIABLES. */
    private static void overlapping(int want, int waiting, int one, int other, String... sides) {
        for (int by = 0; by < 4; by++) {
            String[] turned = new String[sides.length];
            for (int i = 0; i < sides.length; i++) {
                turned[i] = Bench.turned(sides[i], by);
            }
            Bench b = new Bench().ruled(turned);
            due(sides.length / 2 + " " + waiting + " 0 " + sides.length / 2 + " 0", b::counts);
            due(want, () -> b.overlaps(one, other));
        }
    }

    private static void variablesOfOverlaps() {
        // the first side first: 40z and 42a4az
        Bench group = new Bench().ruled("40x", "x", "42xx", "0", "44xyz", "4x4yz");
        group.complete(2);
        due("40x>x 42xx>0 44xyz>4x4yz 42x4xw>w", group::rules);
        // four in the first side, and five; the last RULE has one into itself, too
        overlapping(1, 2, 1, 0, "54xyz", "4xy", "44wxy", "4w4xy");
        overlapping(0, 1, 1, 0, "54xy4zw", "4x4y4zw", "44wxy", "4w4xy");
        // two in the first side and two more in the other one, three and two more
        overlapping(1, 2, 1, 0, "54xyz", "44xyz", "44xyz", "x");
        overlapping(0, 1, 1, 0, "54xy4zw", "44xy4zw", "44xyz", "x");
        // those that were put, but are in neither side, do not count
        Bench gone = new Bench().ruled("54xy4zw", "0", "44xyz", "1");
        due(2, () -> gone.overlaps(1, 0));
        gone.complete(1);
        due("54xy4zw>0 44xyz>1 514wx>0", gone::rules);
    }

    private static void sameSides() {
        overlapping(0, 0, 0, 0, "22x", "x");
        overlapping(1, 1, 0, 0, "22x", "3x");
        // 4wx = 4wy: not the same, though each FITS the other
        overlapping(1, 1, 0, 0, "44xyz", "x");
        // of two RULES: 520y is 50y by both of them, or 50y by one and 51y by the other
        overlapping(0, 0, 1, 0, "52xy", "50y", "20", "0");
        overlapping(1, 1, 1, 0, "52xy", "51y", "20", "0");
    }

    private static void sizesOfOverlaps() {
        // the first side: 4 20 4 2400 2400 is 12, 4 220 4 2400 2400 is 13
        overlapping(1, 1, 1, 0, "42x4xx", "x", "22400", "20");
        overlapping(0, 0, 1, 0, "42x4xx", "x", "22400", "220");
        // .. and with a sign as its last PLACE: 5 4 20 4 400 400 0, and with 220
        overlapping(1, 1, 1, 0, "542x4xx0", "x", "2400", "20");
        overlapping(0, 0, 1, 0, "542x4xx0", "x", "2400", "220");
        // the other side: 24 and 22220 twice is 12, with 222220 once it is 13
        overlapping(1, 1, 1, 0, "34xy", "24xy", "42222022220", "0");
        overlapping(0, 0, 1, 0, "34xy", "24xy", "422220222220", "0");
        // one that is left out, at the PLACE 2, changes nothing of the next one, at the PLACE 7
        Bench next = new Bench().ruled("542x4xx2y", "0", "22400", "320");
        due("2 1 0 2 0", next::counts);
        next.complete(1);
        due("542x4xx2y>0 22400>320 542w4ww320>0", next::rules);
        // one of 12 is an EQUATION like others: 30 and 2 42222022220, which comes to 20
        Bench other = new Bench().ruled("34xy", "24xy", "42222022220", "0");
        other.complete(1);
        due("34xy>24xy 42222022220>0 30>20", other::rules);
    }

    // ---- stopping

    private static Bench stoppedByRules() {
        Bench b = new Bench().fillRules(8);
        b.waits("20", "0");
        b.complete(1);
        return b;
    }

    private static void noStepAnyMore() {
        Bench b = stoppedByRules();
        b.dropRule(0);
        for (int steps = 1; steps <= 3; steps++) {
            int asked = steps;
            due(7, () -> b.complete(asked));
            due(7, () -> b.rulesAfter(asked));
        }
        due("7 1 0 8 1", b::counts);
        // in the call that stops, too: the EQUATION behind it still waits
        Bench within = new Bench().fillRules(8);
        within.waits("20", "0");
        within.waitIdly(2);
        due(8, () -> within.complete(3));
        due("8 3 0 8 1", within::counts);
        // an EQUATION that fits lets it go on, with the one that stopped it
        b.waitIdly(1);
        due("7 2 0 8 0", b::counts);
        due(8, () -> b.complete(1));
        due("8 1 0 9 0", b::counts);
    }

    private static void stopsByRules() {
        Bench seven = new Bench().fillRules(7);
        seven.waits("20", "0");
        due(8, () -> seven.complete(3));
        due("8 0 0 8 0", seven::counts);
        due("8 1 0 8 1", () -> stoppedByRules().counts());
        // with 8 RULES what becomes none stops nothing: the same sides, and those put ASIDE
        Bench b = new Bench().fillRules(8);
        b.waits("400", "0");
        b.waits("x", "y");
        b.waits("20", "0");
        due(8, () -> b.complete(2));
        due("8 1 1 10 0", b::counts);
        // the first two STEPS of three stay done
        Bench third = new Bench().fillRules(6);
        third.waits("20", "0");
        third.waits("21", "0");
        third.waits("30", "0");
        due(8, () -> third.complete(3));
        due("8 1 0 8 1", third::counts);
        due("400 401 410 411 500 501 20 21", () -> third.rules().replace(">0", ""));
    }

    private static Bench before(int idly, String one, String other, String... ruled) {
        Bench b = new Bench().ruled(ruled);
        b.waits(one, other);
        return b.waitIdly(idly);
    }

    private static Bench done(Bench b) {
        b.complete(1);
        return b;
    }

    private static void stopsByEquations() {
        // by OVERLAPS: three
        String[] group = {"40x", "x", "42xx", "0"};
        due("3 20 0 3 0", () -> done(before(17, "44xyz", "4x4yz", group)).counts());
        due("2 19 0 2 1", () -> done(before(18, "44xyz", "4x4yz", group)).counts());
        // one
        due("1 20 0 1 0", () -> done(before(19, "44xyz", "4x4yz")).counts());
        // by RULES that are taken away: one, and two
        due("1 20 0 2 0", () -> done(before(19, "4xy", "0", "400", "0")).counts());
        due("1 20 0 3 0", () -> done(before(18, "4xy", "0", "400", "0", "401", "0")).counts());
        due("2 20 0 2 1", () -> done(before(19, "4xy", "0", "400", "0", "401", "0")).counts());
        // by one of each
        String[] mixed = {"23x", "x", "52200", "0"};
        due("2 20 0 3 0", () -> done(before(18, "22x", "x", mixed)).counts());
        due("2 20 0 2 1", () -> done(before(19, "22x", "x", mixed)).counts());
        // 20 that wait stop nothing, if none comes
        due("1 19 0 1 0", () -> done(before(19, "2x", "x")).counts());
        due("0 19 1 1 0", () -> done(before(19, "x", "y")).counts());
        due("0 19 0 1 0", () -> done(before(19, "x", "x")).counts());
    }

    private static void stopsForAWhile() {
        // a ninth RULE that would leave five, and one that would leave none but itself
        Bench b = new Bench().fillRules(8);
        b.waits("4xy", "0");
        due(8, () -> b.complete(1));
        due("8 1 0 8 1", b::counts);
        Bench all = new Bench().ruled("400", "0", "401", "0", "410", "0", "411", "0", "4030", "0", "4031", "0",
                "4130", "0", "4131", "0");
        all.waits("4xy", "0");
        due(8, () -> all.rulesAfter(1));
        due(8, () -> all.complete(1));
        due("8 1 0 8 1", all::counts);
        // as the eighth it may
        Bench eighth = new Bench().fillRules(7);
        eighth.waits("4xy", "0");
        due(4, () -> eighth.complete(1));
        due("4 4 0 8 0", eighth::counts);
    }

    /** With 4 RULES that the first of 18 EQUATIONS takes away: 21 would wait. */
    private static Bench ready() {
        Bench b = new Bench().fillRules(4).fillTerms(14);
        b.waits("4xy", "0");
        b.waits("511", "1");
        return b.waitIdly(16);
    }

    private static void undone() {
        Bench stopped = ready();
        due(4, () -> stopped.complete(3));
        due("4 18 0 4 1", stopped::counts);
        due("400>0 401>0 410>0 411>0", stopped::rules);
        due(1, () -> stopped.steps(stopped.built("400")));
        due(3, () -> stopped.ofTerm(stopped.built("411"), 0));
        // begun anew it goes on as one that was never stopped
        Bench never = ready();
        never.rules();
        never.built("400");
        never.built("411");
        never.waitIdly(1);
        stopped.waitIdly(1);
        due(3, () -> stopped.dropRule(1));
        due(2, () -> stopped.dropRule(1));
        never.dropRule(1);
        never.dropRule(1);
        due(never.story(), stopped::story);
        // the EQUATION is the first one again, the next one still the next one
        Bench again = ready();
        again.complete(1);
        again.dropRule(3);
        again.dropRule(2);
        again.dropRule(0);
        again.waitIdly(1);
        due(1, () -> again.complete(1));
        due("4xy>0", again::rules);
        due(2, () -> again.complete(1));
        due("4xy>0 511>1", again::rules);
        due("2 18 0 6 0", again::counts);
    }

    private static void beginsAnew() {
        Bench b = stoppedByRules();
        b.dropRule(7);
        due(1, () -> b.many(4));
        due(Sentences.INDEX, () -> b.equation(0, 60));
        due(1, () -> b.many(4));
        due(2, () -> b.equation(0, 0));
        due(0, () -> b.many(4));
        // behind the others: the one that stopped it comes first
        due(8, () -> b.complete(1));
        due("20", () -> b.text(b.rule(7, true)));
        // with 20 that wait none can begin it anew
        Bench full = done(before(19, "4xy", "0", "400", "0", "401", "0"));
        due("2 20 0 2 1", full::counts);
        due(Sentences.STATE, () -> full.equation(0, 0));
        due("2 20 0 2 1", full::counts);
        // it may stop again
        Bench twice = stoppedByRules();
        twice.waitIdly(1);
        due(8, () -> twice.complete(3));
        due("8 2 0 8 1", twice::counts);
    }

    private static void stepsAtMost() {
        for (int waiting = 0; waiting <= 4; waiting++) {
            for (int steps = 1; steps <= 3; steps++) {
                int asked = steps;
                Bench b = new Bench();
                for (int i = 0; i < waiting; i++) {
                    b.waits(Bench.EIGHT[i], "0");
                }
                int done = Math.min(waiting, steps);
                due(done, () -> b.complete(asked));
                due(done + " " + (waiting - done) + " 0 " + done + " 0", b::counts);
            }
        }
        for (int odd : new int[] {0, 4, -1, Sentences.LOW, Sentences.HIGH}) {
            Sentences.refused(Sentences.ARGUMENT, RuleBoundariesTest::ready, b -> b.complete(odd));
        }
    }

    private static void dropped() {
        Bench b = new Bench().fillRules(8);
        due(Sentences.INDEX, () -> b.dropRule(8));
        due(7, () -> b.dropRule(7));
        due(Sentences.INDEX, () -> b.dropRule(7));
        due(6, () -> b.dropRule(0));
        due(5, () -> b.dropRule(2));
        due("401 410 500 501 510", () -> b.rules().replace(">0", ""));
        for (int left = 4; left >= 0; left--) {
            due(left, () -> b.dropRule(0));
        }
        due(Sentences.INDEX, () -> b.dropRule(0));
        due("0 0 0 8 0", b::counts);
        // NORMAL TERMS follow
        Bench normal = new Bench().ruled("3x", "x", "2x", "x");
        int term = normal.built("320");
        due(2, () -> normal.steps(term));
        normal.dropRule(0);
        due(1, () -> normal.steps(term));
        due("30", () -> normal.text(normal.normal(term)));
        normal.dropRule(0);
        due(0, () -> normal.steps(term));
        // a new one can come behind 7
        Bench full = new Bench().fillRules(8);
        full.dropRule(3);
        due("8 0 0 9 0", () -> full.ruled("411", "0").counts());
        due("411", () -> full.text(full.rule(7, true)));
    }

    private static void counted() {
        Bench b = new Bench();
        due("0 0 0 0 0", b::counts);
        b.fillRules(8).waitIdly(20);
        due("8 20 0 8 0", b::counts);
        for (int odd : new int[] {-1, 5}) {
            due(Sentences.ARGUMENT, () -> b.many(odd));
        }
        // ever: more than could wait, more than could be RULES
        Bench aside = new Bench();
        int x = aside.variable(1);
        int y = aside.variable(2);
        for (int i = 0; i < 25; i++) {
            aside.equation(x, y);
            aside.complete(1);
        }
        due("0 0 25 25 0", aside::counts);
        aside.ruled("3x", "x");
        aside.dropRule(0);
        due("0 0 25 26 0", aside::counts);
        // a STEP that stops is not counted, as often as it is tried
        Bench stopped = stoppedByRules();
        stopped.complete(3);
        due("8 1 0 8 1", stopped::counts);
        stopped.waitIdly(1);
        stopped.complete(1);
        due("8 2 0 8 1", stopped::counts);
    }

    private static void overlapsChangeNothing() {
        Supplier<Bench> start = () -> {
            Bench b = new Bench().ruled("40x", "x", "42xx", "0", "44xyz", "4x4yz").fillTerms(30);
            b.complete(1);
            return b;
        };
        for (int one = 0; one < 3; one++) {
            for (int other = 0; other < 3; other++) {
                int a = one;
                int b = other;
                Bench asked = start.get();
                // 40x, 42xx and 44xyz, each into the 4xy of 44xyz
                due(other == 2 ? 1 : 0, () -> asked.overlaps(a, b));
                due(start.get().story(), asked::story);
            }
        }
    }

    private static void meanSize() {
        due(0.0, () -> new Bench().meanSize());
        due(1.0, () -> new Bench().ruled("1", "0").meanSize());
        due(12.0, () -> new Bench().ruled(Bench.chain('2', 11, "1"), "0").meanSize());
        due(1.5, () -> new Bench().ruled("1", "0", "2x", "x").meanSize());
        due(5.0 / 3, () -> new Bench().ruled("1", "0", "2x", "x", "3x", "x").meanSize());
        due(3.0, () -> new Bench().fillRules(8).meanSize());
        due(23.0 / 8, () -> new Bench().fillRules(7).ruled("20", "0").meanSize());
        Bench b = new Bench().ruled("1", "0");
        b.dropRule(0);
        due(0.0, b::meanSize);
    }

    private static void rulesAfter() {
        due(0, () -> new Bench().rulesAfter(1));
        for (int waiting = 0; waiting <= 4; waiting++) {
            for (int steps = 1; steps <= 3; steps++) {
                int asked = steps;
                int many = waiting;
                Supplier<Bench> start = () -> {
                    Bench b = new Bench().fillTerms(13);
                    for (int i = 0; i < many; i++) {
                        b.waits(Bench.EIGHT[i], "0");
                    }
                    return b;
                };
                Bench b = start.get();
                due(Math.min(waiting, steps), () -> b.rulesAfter(asked));
                due(start.get().story(), b::story);
            }
        }
        // one that takes others away, one that would be stopped, one that has been stopped
        Bench away = before(0, "4xy", "0", "400", "0", "401", "0");
        due(1, () -> away.rulesAfter(1));
        due("2 1 0 2 0", away::counts);
        Bench ready = ready();
        due(4, () -> ready.rulesAfter(3));
        due(ready().story(), ready::story);
        Bench stopped = stoppedByRules();
        stopped.dropRule(0);
        due(7, () -> stopped.rulesAfter(3));
        due("7 1 0 8 1", stopped::counts);
        Bench third = new Bench().fillRules(6);
        for (String one : new String[] {"20", "21", "30"}) {
            third.waits(one, "0");
        }
        due(7, () -> third.rulesAfter(1));
        due(8, () -> third.rulesAfter(2));
        due(8, () -> third.rulesAfter(3));
        due("6 3 0 6 0", third::counts);
    }

    private static void sizeWithout() {
        Bench only = new Bench().ruled("3x", "x");
        int term = only.built("330");
        due(1, () -> only.ofTerm(only.normal(term), 0));
        due(3, () -> only.sizeWithout(0, term));
        // the first one and the last one of eight
        Supplier<Bench> start = () -> new Bench().fillRules(8).fillTerms(20);
        Bench b = start.get();
        int first = b.built("2400");
        int last = b.built("2511");
        due(4, () -> b.sizeWithout(0, first));
        due(2, () -> b.sizeWithout(7, first));
        due(4, () -> b.sizeWithout(7, last));
        due(2, () -> b.sizeWithout(0, last));
        due(Sentences.INDEX, () -> b.sizeWithout(8, last));
        Bench never = start.get();
        never.built("2400");
        never.built("2511");
        due(never.story(), b::story);
        // 30 times at most without it, too
        Bench often = new Bench().ruled(SINKING).ruled("400", "0");
        due(6, () -> often.sizeWithout(2, often.built(THIRTY)));
        due(7, () -> often.sizeWithout(2, often.built(THIRTY_ONE)));
        due(7, () -> often.sizeWithout(2, often.built(TWENTY_NINE)));
        due(11, () -> often.sizeWithout(1, often.built(THIRTY)));
        due(11, () -> often.sizeWithout(0, often.built(THIRTY)));
        due(11, () -> often.sizeWithout(0, often.built(THIRTY_ONE)));
    }
}
