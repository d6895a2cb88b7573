import java.util.Arrays;

/**
 * A workshop for proofs: terms and the rules that equations become, formulas and their sequents,
 * and proofs that are checked line by line.
 */
public final class Latticework {

    private static final int SIGNS = 6;
    private static final int VARIABLES = 4;
    private static final int MOST_TERMS = 60;
    private static final int MOST_SIZE = 12;
    private static final int MOST_RULES = 8;
    private static final int MOST_EQUATIONS = 20;
    private static final int MOST_REWRITES = 30;
    private static final int MOST_STEPS = 3;
    private static final int MOST_FORMULAS = 40;
    private static final int MOST_WEIGHT = 6;
    private static final int ATOMS = 6;
    private static final int MOST_LINES = 24;

    private static final int ATOM = 0;
    private static final int EQUALITY = 1;
    private static final int NOT = 2;
    private static final int AND = 3;
    private static final int OR = 4;
    private static final int IMPLIES = 5;

    private static final int GIVEN = 0;
    private static final int BY_IMPLICATION = 1;
    private static final int BY_BOTH = 2;
    private static final int BY_FIRST_OF_AND = 3;
    private static final int BY_SECOND_OF_AND = 4;
    private static final int BY_FIRST_OF_OR = 5;
    private static final int BY_SECOND_OF_OR = 6;
    private static final int BY_CONTRADICTION = 7;
    private static final int BY_TRUTH = 8;
    private static final int BY_SEQUENT = 9;

    private static final int NONE = -1;
    private static final int DIGEST_START = 58092;
    private static final int DIGEST_TERMS = 20;
    private static final int DIGEST_FORMULAS = 12;

    private final Rewriting rewriting;
    private final Meeting meeting;
    private final Completing completing;
    private final State state;
    private final State trial;
    private final TermTable termTable;
    private final FormulaTable formulaTable;
    private final Prover prover;
    private final ProofLines proofLines;

    public Latticework() {
        rewriting = new Rewriting();
        meeting = new Meeting();
        completing = new Completing(rewriting, meeting);
        state = new State();
        trial = new State();
        termTable = new TermTable();
        formulaTable = new FormulaTable();
        prover = new Prover(termTable, formulaTable);
        proofLines = new ProofLines(formulaTable, prover);
    }

    // ---- terms

    public int variable(int variable) throws IllegalArgumentException, IllegalStateException {
        if (variable < 0 || variable >= VARIABLES) {
            throw new IllegalArgumentException("no such VARIABLE");
        }
        return numberOf(Packed.codeOfVariable(variable));
    }

    public int term(int sign, int a, int b)
            throws IndexOutOfBoundsException, IllegalArgumentException, IllegalStateException {
        boolean isSign = sign >= 0 && sign < SIGNS;
        int parts = isSign ? Packed.partsOf(Packed.codeOfSign(sign)) : 0;
        if (parts >= 1) {
            needTerm(a);
        }
        if (parts == 2) {
            needTerm(b);
        }
        if (!isSign) {
            throw new IllegalArgumentException("no such sign");
        }
        long first = parts >= 1 ? termTable.packed[a] : 0;
        long second = parts == 2 ? termTable.packed[b] : 0;
        if (1 + Packed.sizeOf(first) + Packed.sizeOf(second) > MOST_SIZE) {
            throw new IllegalArgumentException("the SIZE would be above 12");
        }
        return numberOf(Packed.joined(Packed.joined(Packed.codeOfSign(sign), first), second));
    }

    public int terms() {
        return termTable.count;
    }

    public int ofTerm(int term, int what) throws IndexOutOfBoundsException, IllegalArgumentException {
        needTerm(term);
        if (what < 0 || what > 1) {
            throw new IllegalArgumentException("what is 0 or 1");
        }
        long packed = termTable.packed[term];
        return what == 0 ? Packed.sizeOf(packed) : Packed.variablesIn(packed);
    }

    public int at(int term, int place) throws IndexOutOfBoundsException {
        needTerm(term);
        long packed = termTable.packed[term];
        if (place < 0 || place >= Packed.sizeOf(packed)) {
            throw new IndexOutOfBoundsException("no such PLACE");
        }
        return Packed.toldOf(Packed.codeAt(packed, place));
    }

    public int compare(int one, int other) throws IndexOutOfBoundsException {
        needTerm(one);
        needTerm(other);
        long first = termTable.packed[one];
        long second = termTable.packed[other];
        if (Packed.isGreater(first, second)) {
            return 1;
        }
        return Packed.isGreater(second, first) ? -1 : 0;
    }

    public boolean fits(int one, int other) throws IndexOutOfBoundsException {
        needTerm(one);
        needTerm(other);
        return rewriting.doesFit(termTable.packed[one], termTable.packed[other], 0);
    }

    public int meet(int one, int other) throws IndexOutOfBoundsException {
        needTerm(one);
        needTerm(other);
        return meeting.sizeOfBoth(termTable.packed[one], termTable.packed[other]);
    }

    // ---- equations and rules

    public int equation(int one, int other) throws IndexOutOfBoundsException, IllegalStateException {
        needTerm(one);
        needTerm(other);
        if (!state.addEquation(termTable.packed[one], termTable.packed[other])) {
            throw new IllegalStateException("20 EQUATIONS wait");
        }
        state.isStopped = false;
        return state.waiting;
    }

    public int complete(int steps) throws IllegalArgumentException {
        needStepCount(steps);
        completing.doSteps(state, steps);
        termTable.forgetNormals();
        return state.rules;
    }

    public int dropRule(int rule) throws IndexOutOfBoundsException {
        needRule(rule);
        state.removeRule(rule);
        termTable.forgetNormals();
        return state.rules;
    }

    public int many(int what) throws IllegalArgumentException {
        if (what < 0 || what > 4) {
            throw new IllegalArgumentException("what is 0 to 4");
        }
        return state.counted(what);
    }

    public int rule(int rule, boolean isLeft) throws IndexOutOfBoundsException, IllegalStateException {
        needRule(rule);
        return numberOf(isLeft ? state.left[rule] : state.right[rule]);
    }

    public int normal(int term) throws IndexOutOfBoundsException, IllegalStateException {
        needTerm(term);
        return numberOf(normalOf(term));
    }

    public int steps(int term) throws IndexOutOfBoundsException {
        needTerm(term);
        return rewritesOf(term);
    }

    public boolean areEqual(int one, int other) throws IndexOutOfBoundsException {
        needTerm(one);
        needTerm(other);
        return normalOf(one) == normalOf(other);
    }

    public int overlaps(int one, int other) throws IndexOutOfBoundsException {
        needRule(one);
        needRule(other);
        return completing.findOverlaps(state, one, other);
    }

    public double meanSize() {
        if (state.rules <= 0) {
            return 0;
        }
        int sum = 0;
        for (int rule = 0; rule < state.rules; rule++) {
            sum += Packed.sizeOf(state.left[rule]);
        }
        return (double) sum / state.rules;
    }

    // ---- formulas

    public int formula(int kind, int a, int b)
            throws IndexOutOfBoundsException, IllegalArgumentException, IllegalStateException {
        needParts(kind, a, b);
        if (kind < ATOM || kind > IMPLIES) {
            throw new IllegalArgumentException("kind is 0 to 5");
        }
        if (kind == ATOM && (a < 0 || a >= ATOMS)) {
            throw new IllegalArgumentException("an ATOM is 0 to 5");
        }
        if (formulaTable.weightOf(kind, a, b) > MOST_WEIGHT) {
            throw new IllegalArgumentException("more than 6 of the kinds 2 to 5");
        }
        int number = formulaTable.findOrAdd(kind, a, kind == ATOM || kind == NOT ? 0 : b);
        if (number < 0) {
            throw new IllegalStateException("there are 40 FORMULAS");
        }
        return number;
    }

    public int formulas() {
        return formulaTable.count;
    }

    public boolean isProved(int formula) throws IndexOutOfBoundsException {
        needFormula(formula);
        findNormalsOfEqualities();
        return prover.prove(NONE, formula);
    }

    public int proof(int formula, int what) throws IndexOutOfBoundsException, IllegalArgumentException {
        needFormula(formula);
        if (what < 0 || what > 2) {
            throw new IllegalArgumentException("what is 0 to 2");
        }
        findNormalsOfEqualities();
        prover.prove(NONE, formula);
        if (what == 0) {
            return prover.takenApart;
        }
        return what == 1 ? prover.closed : prover.openAtoms;
    }

    // ---- proofs

    public int line(int formula, int reason, int x, int y)
            throws IndexOutOfBoundsException, IllegalArgumentException, IllegalStateException {
        needFormula(formula);
        int named = ProofLines.linesNamedBy(reason);
        if (named >= 1) {
            needLine(x);
        }
        if (named == 2) {
            needLine(y);
        }
        if (reason < GIVEN || reason > BY_SEQUENT) {
            throw new IllegalArgumentException("a REASON is 0 to 9");
        }
        int number = proofLines.add(formula, reason, x, y);
        if (number < 0) {
            throw new IllegalStateException("there are 24 LINES");
        }
        return number;
    }

    public int unline() throws IllegalStateException {
        if (proofLines.count <= 0) {
            throw new IllegalStateException("there is no LINE");
        }
        proofLines.count--;
        return proofLines.count;
    }

    public boolean isRight(int line) throws IndexOutOfBoundsException {
        needLine(line);
        findNormalsOfEqualities();
        proofLines.checkUpTo(line);
        return proofLines.right[line];
    }

    public int given(int line) throws IndexOutOfBoundsException {
        needLine(line);
        return proofLines.givenUnder(line);
    }

    public int firstWrong() {
        findNormalsOfEqualities();
        proofLines.checkUpTo(proofLines.count - 1);
        for (int line = 0; line < proofLines.count; line++) {
            if (!proofLines.right[line]) {
                return line;
            }
        }
        return NONE;
    }

    // ---- what would be (nothing is changed)

    public int rulesAfter(int steps) throws IllegalArgumentException {
        needStepCount(steps);
        trial.copy(state);
        completing.doSteps(trial, steps);
        return trial.rules;
    }

    public int sizeWithout(int rule, int term) throws IndexOutOfBoundsException {
        needRule(rule);
        needTerm(term);
        return Packed.sizeOf(rewriting.rewritten(state, termTable.packed[term], rule));
    }

    public long digest() {
        long d = mixed(DIGEST_START, termTable.count);
        for (int what = 0; what <= 4; what++) {
            d = mixed(d, state.counted(what));
        }
        for (int rule = 0; rule < state.rules; rule++) {
            d = mixedTerm(mixedTerm(d, state.left[rule]), state.right[rule]);
        }
        for (int term = 0; term < termTable.count && term < DIGEST_TERMS; term++) {
            d = mixed(d, Packed.sizeOf(termTable.packed[term]));
            d = mixed(d, rewritesOf(term));
            d = mixed(d, Packed.sizeOf(normalOf(term)));
        }
        findNormalsOfEqualities();
        for (int formula = 0; formula < formulaTable.count && formula < DIGEST_FORMULAS; formula++) {
            d = mixed(d, prover.prove(NONE, formula) ? 1 : 0);
            d = mixed(d, prover.takenApart);
            d = mixed(d, prover.closed);
            d = mixed(d, prover.openAtoms);
        }
        proofLines.checkUpTo(proofLines.count - 1);
        for (int line = 0; line < proofLines.count; line++) {
            d = mixed(d, proofLines.right[line] ? 1 : 0);
            d = mixed(d, proofLines.givenUnder(line));
        }
        return d;
    }

    // ---- what the calls share

    private void needTerm(int term) {
        if (term < 0 || term >= termTable.count) {
            throw new IndexOutOfBoundsException("no such TERM");
        }
    }

    private void needRule(int rule) {
        if (rule < 0 || rule >= state.rules) {
            throw new IndexOutOfBoundsException("no such RULE");
        }
    }

    private void needFormula(int formula) {
        if (formula < 0 || formula >= formulaTable.count) {
            throw new IndexOutOfBoundsException("no such FORMULA");
        }
    }

    private void needLine(int line) {
        if (line < 0 || line >= proofLines.count) {
            throw new IndexOutOfBoundsException("no such LINE");
        }
    }

    private void needStepCount(int steps) {
        if (steps < 1 || steps > MOST_STEPS) {
            throw new IllegalArgumentException("steps is 1 to 3");
        }
    }

    private void needParts(int kind, int a, int b) {
        if (kind == EQUALITY) {
            needTerm(a);
            needTerm(b);
        }
        if (kind >= NOT && kind <= IMPLIES) {
            needFormula(a);
        }
        if (kind >= AND && kind <= IMPLIES) {
            needFormula(b);
        }
    }

    private int numberOf(long packed) {
        int number = termTable.findOrAdd(packed);
        if (number < 0) {
            throw new IllegalStateException("there are 60 TERMS");
        }
        return number;
    }

    private long normalOf(int term) {
        findNormal(term);
        return termTable.normal[term];
    }

    private int rewritesOf(int term) {
        findNormal(term);
        return termTable.rewrites[term];
    }

    private void findNormal(int term) {
        if (termTable.normal[term] == 0) {
            termTable.normal[term] = rewriting.rewritten(state, termTable.packed[term], NONE);
            termTable.rewrites[term] = rewriting.times;
        }
    }

    /** The prover only looks normal terms up, so they are found ahead of it. */
    private void findNormalsOfEqualities() {
        for (int formula = 0; formula < formulaTable.count; formula++) {
            if (formulaTable.kind[formula] == EQUALITY) {
                findNormal(formulaTable.first[formula]);
                findNormal(formulaTable.second[formula]);
            }
        }
    }

    private static long mixed(long d, long v) {
        return d * 31 + v;
    }

    private static long mixedTerm(long d, long packed) {
        long after = d;
        int size = Packed.sizeOf(packed);
        for (int place = 0; place < size; place++) {
            after = mixed(after, Packed.toldOf(Packed.codeAt(packed, place)));
        }
        return after;
    }

    /**
     * A TERM is held as one long, so that it costs no object and the same TERMS are the same
     * number: four bits for each PLACE, from the lowest ones on, with what at() tells plus 1. A 0
     * is then what stands behind the last PLACE, and 0 as a whole is no TERM.
     */
    private static final class Packed {

        static final int FIRST_VARIABLE = 11;
        static final int BITS = 4;

        static int codeOfSign(int sign) {
            return sign + 1;
        }

        static int codeOfVariable(int variable) {
            return FIRST_VARIABLE + variable;
        }

        static int toldOf(int code) {
            return code - 1;
        }

        static boolean isVariable(int code) {
            return code >= FIRST_VARIABLE && code < FIRST_VARIABLE + VARIABLES;
        }

        static int variableOf(int code) {
            return code - FIRST_VARIABLE;
        }

        static int partsOf(int code) {
            switch (code) {
                case 3:
                case 4:
                    return 1;
                case 5:
                case 6:
                    return 2;
                default:
                    return 0;
            }
        }

        static int codeAt(long term, int place) {
            return (int) (term >>> (BITS * place)) & 15;
        }

        static int sizeOf(long term) {
            int size = 0;
            while (size < MOST_SIZE && term >>> (BITS * size) != 0) {
                size++;
            }
            return size;
        }

        /** The PLACE behind the last one of the TERM that begins at a PLACE. */
        static int endOf(long term, int place) {
            int end = place;
            int missing = 1;
            while (end < MOST_SIZE && missing > 0) {
                missing += partsOf(codeAt(term, end)) - 1;
                end++;
            }
            return end;
        }

        static long part(long term, int from, int to) {
            return (term >>> (BITS * from)) & ((1L << (BITS * (to - from))) - 1);
        }

        static long joined(long head, long tail) {
            return head | tail << (BITS * sizeOf(head));
        }

        static int timesIn(long term, int code) {
            int times = 0;
            for (int place = 0; place < MOST_SIZE; place++) {
                if (codeAt(term, place) == code) {
                    times++;
                }
            }
            return times;
        }

        static int variablesIn(long term) {
            int found = 0;
            for (int variable = 0; variable < VARIABLES; variable++) {
                if (timesIn(term, codeOfVariable(variable)) > 0) {
                    found++;
                }
            }
            return found;
        }

        static boolean hasVariablesOf(long s, long t) {
            for (int variable = 0; variable < VARIABLES; variable++) {
                int code = codeOfVariable(variable);
                if (timesIn(t, code) > timesIn(s, code)) {
                    return false;
                }
            }
            return true;
        }

        static boolean isGreater(long s, long t) {
            long one = s;
            long other = t;
            // each turn goes on with smaller parts, so there are no more turns than PLACES
            for (int turn = 0; turn < MOST_SIZE && one != other; turn++) {
                if (!hasVariablesOf(one, other)) {
                    return false;
                }
                int sizeMore = sizeOf(one) - sizeOf(other);
                if (sizeMore != 0) {
                    return sizeMore > 0;
                }
                int code = codeAt(one, 0);
                int otherCode = codeAt(other, 0);
                if (isVariable(code) || isVariable(otherCode)) {
                    return false;
                }
                if (code != otherCode) {
                    return code > otherCode;
                }
                int end = endOf(one, 1);
                int otherEnd = endOf(other, 1);
                boolean isSameFirst = part(one, 1, end) == part(other, 1, otherEnd);
                int size = sizeOf(one);
                one = isSameFirst ? part(one, end, size) : part(one, 1, end);
                other = isSameFirst ? part(other, otherEnd, size) : part(other, 1, otherEnd);
            }
            return false;
        }
    }

    /** Fits left sides of RULES to TERMS, and rewrites by them. */
    private static final class Rewriting {

        private final long[] put = new long[VARIABLES];
        int times;

        /** Leaves what is put for each VARIABLE of l in the row put, as rewriting needs it. */
        boolean doesFit(long l, long term, int place) {
            Arrays.fill(put, 0L);
            int size = Packed.sizeOf(l);
            int at = place;
            for (int i = 0; i < size; i++) {
                int code = Packed.codeAt(l, i);
                int end = at + 1;
                if (Packed.isVariable(code)) {
                    int variable = Packed.variableOf(code);
                    end = Packed.endOf(term, at);
                    long part = Packed.part(term, at, end);
                    if (put[variable] == 0) {
                        put[variable] = part;
                    }
                    if (put[variable] != part) {
                        return false;
                    }
                } else if (Packed.codeAt(term, at) != code) {
                    return false;
                }
                at = end;
            }
            return true;
        }

        boolean doesFitSomewhere(long l, long term) {
            int size = Packed.sizeOf(term);
            for (int place = 0; place < size; place++) {
                if (doesFit(l, term, place)) {
                    return true;
                }
            }
            return false;
        }

        private long filled(long r) {
            long term = 0;
            int size = Packed.sizeOf(r);
            for (int place = 0; place < size; place++) {
                int code = Packed.codeAt(r, place);
                term = Packed.joined(term, Packed.isVariable(code) ? put[Packed.variableOf(code)] : code);
            }
            return term;
        }

        /** Returns 0, which is no TERM, if no RULE FITS; one RULE may be left out. */
        private long rewrittenOnce(State state, long term, int without) {
            int size = Packed.sizeOf(term);
            for (int place = 0; place < size; place++) {
                for (int rule = 0; rule < state.rules; rule++) {
                    if (rule != without && doesFit(state.left[rule], term, place)) {
                        long head = Packed.part(term, 0, place);
                        long tail = Packed.part(term, Packed.endOf(term, place), size);
                        return Packed.joined(Packed.joined(head, filled(state.right[rule])), tail);
                    }
                }
            }
            return 0;
        }

        /** The NORMAL TERM; how often it was rewritten till that is left in times. */
        long rewritten(State state, long term, int without) {
            long now = term;
            for (times = 0; times < MOST_REWRITES; times++) {
                long next = rewrittenOnce(state, now, without);
                if (next == 0) {
                    return now;
                }
                now = next;
            }
            return now;
        }
    }

    /**
     * Finds what two TERMS become as they MEET. What both become may be far longer than 12, so it
     * is held as a graph: the VARIABLES of both sides, then a node for each sign; nodes that
     * become the same have the same leader, which bears a sign if one of them does.
     */
    private static final class Meeting {

        private static final int SIDES = 2;
        private static final int MOST_NODES = SIDES * (VARIABLES + 2 * MOST_SIZE);
        // nodes are united fewer times than there are nodes, and each time puts two pairs here
        private static final int MOST_PILED = 4 * MOST_NODES + 4;

        private final int[] code = new int[MOST_NODES];
        private final int[] first = new int[MOST_NODES];
        private final int[] second = new int[MOST_NODES];
        private final int[] leader = new int[MOST_NODES];
        private final int[] size = new int[MOST_NODES];
        private final int[] pile = new int[MOST_PILED];
        // for each node of a VARIABLE its code in the EQUATION that is written, 0 before it has come
        private final int[] numberedAnew = new int[SIDES * VARIABLES];
        private final int[] places = new int[MOST_SIZE];
        private int nodes;
        private int seen;
        private long written;
        private int length;

        int sizeOfBoth(long one, long other) {
            clear();
            int node = addTerm(one, 0);
            return doMeet(node, addTerm(other, 1)) ? size[leaderOf(node)] : NONE;
        }

        void clear() {
            nodes = SIDES * VARIABLES;
            for (int node = 0; node < nodes; node++) {
                code[node] = Packed.codeOfVariable(node % VARIABLES);
                first[node] = NONE;
                second[node] = NONE;
            }
        }

        /** Adds a TERM with the VARIABLES of a side; its nodes stay in the row places till the next. */
        int addTerm(long term, int side) {
            for (int place = Packed.sizeOf(term) - 1; place >= 0; place--) {
                int sign = Packed.codeAt(term, place);
                if (Packed.isVariable(sign)) {
                    places[place] = side * VARIABLES + Packed.variableOf(sign);
                } else {
                    int parts = Packed.partsOf(sign);
                    int after = parts == 2 ? Packed.endOf(term, place + 1) : 0;
                    places[place] = addNode(sign, parts >= 1 ? nodeAt(place + 1) : NONE,
                            parts == 2 ? nodeAt(after) : NONE);
                }
            }
            return places[0];
        }

        int nodeAt(int place) {
            return place >= 0 && place < MOST_SIZE ? places[place] : NONE;
        }

        private int addNode(int sign, int firstPart, int secondPart) {
            if (nodes >= MOST_NODES) {
                return NONE;
            }
            code[nodes] = sign;
            first[nodes] = firstPart;
            second[nodes] = secondPart;
            nodes++;
            return nodes - 1;
        }

        boolean doMeet(int one, int other) {
            if (one < 0 || other < 0) {
                return false;
            }
            for (int node = 0; node < nodes; node++) {
                leader[node] = node;
                size[node] = 0;
            }
            return unite(one, other) && measure();
        }

        private int leaderOf(int node) {
            int at = node;
            for (int turn = 0; turn < MOST_NODES && leader[at] != at; turn++) {
                at = leader[at];
            }
            return at;
        }

        private boolean unite(int one, int other) {
            pile[0] = one;
            pile[1] = other;
            int piled = 2;
            for (int turn = 0; turn < MOST_PILED && piled >= 2; turn++) {
                piled -= 2;
                int a = leaderOf(pile[piled]);
                int b = leaderOf(pile[piled + 1]);
                if (a == b) {
                    continue;
                }
                if (Packed.isVariable(code[a])) {
                    leader[a] = b;
                } else if (Packed.isVariable(code[b])) {
                    leader[b] = a;
                } else if (code[a] != code[b]) {
                    return false;
                } else {
                    leader[a] = b;
                    piled = pilePair(piled, second[a], second[b]);
                    piled = pilePair(piled, first[a], first[b]);
                }
            }
            return true;
        }

        private int pilePair(int piled, int one, int other) {
            if (one < 0 || other < 0 || piled + 2 > MOST_PILED) {
                return piled;
            }
            pile[piled] = one;
            pile[piled + 1] = other;
            return piled + 2;
        }

        /**
         * Finds the SIZE of every leader from those of its parts. One that never gets a SIZE
         * stands in itself: then the TERMS do not MEET.
         */
        private boolean measure() {
            int missing = nodes;
            int missingBefore = nodes + 1;
            for (int turn = 0; turn <= MOST_NODES && missing > 0 && missing < missingBefore; turn++) {
                missingBefore = missing;
                missing = 0;
                for (int node = 0; node < nodes; node++) {
                    if (leader[node] != node || size[node] > 0) {
                        continue;
                    }
                    int a = first[node] < 0 ? NONE : size[leaderOf(first[node])];
                    int b = second[node] < 0 ? NONE : size[leaderOf(second[node])];
                    if (a == 0 || b == 0) {
                        missing++;
                    } else {
                        size[node] = 1 + Math.max(a, 0) + Math.max(b, 0);
                    }
                }
            }
            return missing == 0;
        }

        void beginEquation() {
            Arrays.fill(numberedAnew, 0);
            seen = 0;
            written = 0;
            length = 0;
        }

        /** Returns the side that is written, and begins the next one. */
        long takeSide() {
            long side = written;
            written = 0;
            length = 0;
            return side;
        }

        boolean writeCode(int sign) {
            if (length >= MOST_SIZE) {
                return false;
            }
            written |= (long) sign << (Packed.BITS * length);
            length++;
            return true;
        }

        /** Writes what has been put; says no if that makes the side, or its VARIABLES, too many. */
        boolean writeNode(int node) {
            if (node < 0 || length + size[leaderOf(node)] > MOST_SIZE) {
                return false;
            }
            pile[0] = node;
            int piled = 1;
            for (int turn = 0; turn < MOST_SIZE && piled > 0; turn++) {
                piled--;
                int at = leaderOf(pile[piled]);
                int sign = at < numberedAnew.length ? anewOf(at) : code[at];
                if (sign == 0 || !writeCode(sign)) {
                    return false;
                }
                piled = pileNode(piled, second[at]);
                piled = pileNode(piled, first[at]);
            }
            return piled == 0;
        }

        private int pileNode(int piled, int node) {
            if (node < 0 || piled >= MOST_PILED) {
                return piled;
            }
            pile[piled] = node;
            return piled + 1;
        }

        /** Returns 0 if there are too many VARIABLES. */
        private int anewOf(int node) {
            if (numberedAnew[node] == 0 && seen < VARIABLES) {
                numberedAnew[node] = Packed.FIRST_VARIABLE + seen;
                seen++;
            }
            return numberedAnew[node];
        }
    }

    /** The RULES, the EQUATIONS that wait, and the counts that completing changes. */
    private static final class State {

        final long[] left = new long[MOST_RULES];
        final long[] right = new long[MOST_RULES];
        final long[] one = new long[MOST_EQUATIONS];
        final long[] other = new long[MOST_EQUATIONS];
        int rules;
        int waiting;
        int aside;
        int done;
        boolean isStopped;

        void copy(State from) {
            System.arraycopy(from.left, 0, left, 0, MOST_RULES);
            System.arraycopy(from.right, 0, right, 0, MOST_RULES);
            System.arraycopy(from.one, 0, one, 0, MOST_EQUATIONS);
            System.arraycopy(from.other, 0, other, 0, MOST_EQUATIONS);
            rules = from.rules;
            waiting = from.waiting;
            aside = from.aside;
            done = from.done;
            isStopped = from.isStopped;
        }

        int counted(int what) {
            switch (what) {
                case 0:
                    return rules;
                case 1:
                    return waiting;
                case 2:
                    return aside;
                case 3:
                    return done;
                default:
                    return isStopped ? 1 : 0;
            }
        }

        boolean addRule(long l, long r) {
            if (rules >= MOST_RULES) {
                return false;
            }
            left[rules] = l;
            right[rules] = r;
            rules++;
            return true;
        }

        void removeRule(int rule) {
            for (int i = rule; i + 1 < rules; i++) {
                left[i] = left[i + 1];
                right[i] = right[i + 1];
            }
            rules--;
        }

        boolean addEquation(long oneSide, long otherSide) {
            if (waiting >= MOST_EQUATIONS) {
                return false;
            }
            one[waiting] = oneSide;
            other[waiting] = otherSide;
            waiting++;
            return true;
        }

        void removeFirstEquation() {
            for (int i = 0; i + 1 < waiting; i++) {
                one[i] = one[i + 1];
                other[i] = other[i + 1];
            }
            waiting--;
        }
    }

    /** Does STEPS of completing on a state. */
    private static final class Completing {

        private final Rewriting rewriting;
        private final Meeting meeting;
        private final State before = new State();
        private final long[] foundOne = new long[MOST_SIZE];
        private final long[] foundOther = new long[MOST_SIZE];

        Completing(Rewriting rewriting, Meeting meeting) {
            this.rewriting = rewriting;
            this.meeting = meeting;
        }

        void doSteps(State state, int steps) {
            for (int step = 0; step < steps && state.waiting > 0 && !state.isStopped; step++) {
                before.copy(state);
                if (doStep(state)) {
                    state.done++;
                } else {
                    state.copy(before);
                    state.isStopped = true;
                }
            }
        }

        /** Says no, and leaves the state half done, if the STEP must stop completing. */
        private boolean doStep(State state) {
            long one = rewriting.rewritten(state, state.one[0], NONE);
            long other = rewriting.rewritten(state, state.other[0], NONE);
            state.removeFirstEquation();
            if (one == other) {
                return true;
            }
            boolean isOneGreater = Packed.isGreater(one, other);
            if (!isOneGreater && !Packed.isGreater(other, one)) {
                state.aside++;
                return true;
            }
            return state.addRule(isOneGreater ? one : other, isOneGreater ? other : one)
                    && takeRulesAway(state) && addOverlaps(state);
        }

        /** Takes the RULES away that the last one rewrites. */
        private boolean takeRulesAway(State state) {
            long l = state.left[state.rules - 1];
            int rule = 0;
            for (int ahead = state.rules - 1; ahead > 0; ahead--) {
                if (!rewriting.doesFitSomewhere(l, state.left[rule])) {
                    rule++;
                } else if (state.addEquation(state.left[rule], state.right[rule])) {
                    state.removeRule(rule);
                } else {
                    return false;
                }
            }
            return true;
        }

        /** Adds, RULE by RULE, those of the last one into it, then those of it into the last one. */
        private boolean addOverlaps(State state) {
            int last = state.rules - 1;
            // two turns for each RULE ahead, but a single one for the last RULE into itself
            for (int turn = 0; turn <= 2 * last; turn++) {
                int rule = turn / 2;
                boolean isOfLast = turn % 2 == 0;
                int found = findOverlaps(state, isOfLast ? last : rule, isOfLast ? rule : last);
                for (int i = 0; i < found; i++) {
                    if (!state.addEquation(foundOne[i], foundOther[i])) {
                        return false;
                    }
                }
            }
            return true;
        }

        /** Leaves the OVERLAPS of a into b in the rows found, and returns how many there are. */
        int findOverlaps(State state, int a, int b) {
            meeting.clear();
            int leftOfA = meeting.addTerm(state.left[a], 0);
            int rightOfA = meeting.addTerm(state.right[a], 0);
            int rightOfB = meeting.addTerm(state.right[b], 1);
            long l = state.left[b];
            meeting.addTerm(l, 1);
            int size = Packed.sizeOf(l);
            int found = 0;
            for (int place = a == b ? 1 : 0; place < size; place++) {
                if (Packed.isVariable(Packed.codeAt(l, place))
                        || !meeting.doMeet(leftOfA, meeting.nodeAt(place))) {
                    continue;
                }
                meeting.beginEquation();
                if (writeReplaced(l, place, rightOfA)) {
                    foundOne[found] = meeting.takeSide();
                    boolean isWritten = meeting.writeNode(rightOfB);
                    foundOther[found] = meeting.takeSide();
                    found += isWritten && foundOne[found] != foundOther[found] ? 1 : 0;
                }
            }
            return found;
        }

        /** Writes l with all that is put, but for the TERM at a PLACE the one of a node. */
        private boolean writeReplaced(long l, int place, int node) {
            int size = Packed.sizeOf(l);
            int behind = Packed.endOf(l, place);
            for (int at = 0; at < size; at++) {
                int code = Packed.codeAt(l, at);
                boolean isWritten = true;
                if (at == place) {
                    isWritten = meeting.writeNode(node);
                } else if (at < place || at >= behind) {
                    isWritten = Packed.isVariable(code)
                            ? meeting.writeNode(meeting.nodeAt(at)) : meeting.writeCode(code);
                }
                if (!isWritten) {
                    return false;
                }
            }
            return true;
        }
    }

    /** The numbered TERMS, with their NORMAL TERMS as far as these are known (0: not yet). */
    private static final class TermTable {

        final long[] packed = new long[MOST_TERMS];
        final long[] normal = new long[MOST_TERMS];
        final int[] rewrites = new int[MOST_TERMS];
        int count;

        int findOrAdd(long term) {
            for (int i = 0; i < count; i++) {
                if (packed[i] == term) {
                    return i;
                }
            }
            if (count >= MOST_TERMS) {
                return NONE;
            }
            packed[count] = term;
            count++;
            return count - 1;
        }

        /** The RULES have changed. */
        void forgetNormals() {
            Arrays.fill(normal, 0L);
        }
    }

    /** The numbered FORMULAS; first and second are what kind asks for, 0 where it asks for none. */
    private static final class FormulaTable {

        final int[] kind = new int[MOST_FORMULAS];
        final int[] first = new int[MOST_FORMULAS];
        final int[] second = new int[MOST_FORMULAS];
        private final int[] weight = new int[MOST_FORMULAS];
        int count;

        /** How many of the kinds 2 to 5 stand in it. */
        int weightOf(int newKind, int a, int b) {
            if (newKind < NOT) {
                return 0;
            }
            int sum = 1;
            if (has(a)) {
                sum += weight[a];
            }
            if (newKind != NOT && has(b)) {
                sum += weight[b];
            }
            return sum;
        }

        private boolean has(int formula) {
            return formula >= 0 && formula < count;
        }

        int findOrAdd(int newKind, int a, int b) {
            for (int i = 0; i < count; i++) {
                if (kind[i] == newKind && first[i] == a && second[i] == b) {
                    return i;
                }
            }
            if (count >= MOST_FORMULAS) {
                return NONE;
            }
            kind[count] = newKind;
            first[count] = a;
            second[count] = b;
            weight[count] = weightOf(newKind, a, b);
            count++;
            return count - 1;
        }

        boolean isTakenApart(int formula) {
            return kind[formula] >= NOT;
        }
    }

    /** A side of a SEQUENT. */
    private static final class Row {

        // two FORMULAS of 6 each at most, and taking one apart makes one more of it at most
        private static final int MOST = 2 + 2 * MOST_WEIGHT;

        final int[] formula = new int[MOST];
        int count;

        void add(int added) {
            if (count < MOST) {
                formula[count] = added;
                count++;
            }
        }

        void remove(int place) {
            for (int i = place; i + 1 < count; i++) {
                formula[i] = formula[i + 1];
            }
            count--;
        }

        void copy(Row from) {
            for (int i = 0; i < MOST; i++) {
                formula[i] = from.formula[i];
            }
            count = from.count;
        }
    }

    /** Takes SEQUENTS apart: those still to be looked at are on a pile, the next one on top. */
    private static final class Prover {

        // taking apart puts one more on the pile at most, and 12 times is the most for one SEQUENT
        private static final int MOST_PILED = 2 + 2 * MOST_WEIGHT;
        private static final int MOST_TURNS = 1_000_000;

        private final TermTable terms;
        private final FormulaTable formulas;
        private final Row[] left = new Row[MOST_PILED];
        private final Row[] right = new Row[MOST_PILED];
        int takenApart;
        int closed;
        int openAtoms;

        Prover(TermTable terms, FormulaTable formulas) {
            this.terms = terms;
            this.formulas = formulas;
            for (int i = 0; i < MOST_PILED; i++) {
                left[i] = new Row();
                right[i] = new Row();
            }
        }

        /** Proves the SEQUENT of a FORMULA on the left (or NONE) and one on the right. */
        boolean prove(int onLeft, int onRight) {
            takenApart = 0;
            closed = 0;
            openAtoms = NONE;
            left[0].count = 0;
            right[0].count = 0;
            if (onLeft >= 0) {
                left[0].add(onLeft);
            }
            right[0].add(onRight);
            int piled = 1;
            for (int turn = 0; turn < MOST_TURNS && piled > 0; turn++) {
                int top = piled - 1;
                if (isClosed(top)) {
                    closed++;
                    piled--;
                    continue;
                }
                int come = takeApart(top);
                if (come == 0) {
                    openAtoms = atomsIn(left[top]);
                    return false;
                }
                takenApart++;
                piled += come - 1;
            }
            return true;
        }

        private boolean isClosed(int top) {
            Row onRight = right[top];
            for (int i = 0; i < onRight.count; i++) {
                int formula = onRight.formula[i];
                if (!formulas.isTakenApart(formula)
                        && (isTrue(formula) || isAmong(formula, left[top]))) {
                    return true;
                }
            }
            return false;
        }

        boolean isTrue(int formula) {
            return formulas.kind[formula] == EQUALITY
                    && terms.normal[formulas.first[formula]] == terms.normal[formulas.second[formula]];
        }

        private boolean isAmong(int formula, Row row) {
            for (int i = 0; i < row.count; i++) {
                if (isSameAtom(formula, row.formula[i])) {
                    return true;
                }
            }
            return false;
        }

        private boolean isSameAtom(int formula, int other) {
            if (formula == other) {
                return true;
            }
            if (formulas.kind[formula] != EQUALITY || formulas.kind[other] != EQUALITY) {
                return false;
            }
            long a = terms.normal[formulas.first[formula]];
            long b = terms.normal[formulas.second[formula]];
            long c = terms.normal[formulas.first[other]];
            long d = terms.normal[formulas.second[other]];
            return a == c && b == d || a == d && b == c;
        }

        /** Returns how many SEQUENTS come of the one on top: 0 if nothing can be taken apart. */
        private int takeApart(int top) {
            int place = placeToTakeApart(left[top]);
            if (place >= 0) {
                return takeApartLeft(top, place);
            }
            place = placeToTakeApart(right[top]);
            return place >= 0 ? takeApartRight(top, place) : 0;
        }

        private int placeToTakeApart(Row row) {
            for (int i = 0; i < row.count; i++) {
                if (formulas.isTakenApart(row.formula[i])) {
                    return i;
                }
            }
            return NONE;
        }

        private int takeApartLeft(int top, int place) {
            int formula = left[top].formula[place];
            int a = formulas.first[formula];
            int b = formulas.second[formula];
            left[top].remove(place);
            switch (formulas.kind[formula]) {
                case NOT:
                    right[top].add(a);
                    return 1;
                case AND:
                    left[top].add(a);
                    left[top].add(b);
                    return 1;
                case OR:
                    return comeTwo(top, left, a, left, b);
                default:
                    return comeTwo(top, right, a, left, b);
            }
        }

        private int takeApartRight(int top, int place) {
            int formula = right[top].formula[place];
            int a = formulas.first[formula];
            int b = formulas.second[formula];
            right[top].remove(place);
            switch (formulas.kind[formula]) {
                case NOT:
                    left[top].add(a);
                    return 1;
                case AND:
                    return comeTwo(top, right, a, right, b);
                case OR:
                    right[top].add(a);
                    right[top].add(b);
                    return 1;
                default:
                    left[top].add(a);
                    right[top].add(b);
                    return 1;
            }
        }

        /** The first of the two SEQUENTS goes on top, as it is looked at ahead of the second one. */
        private int comeTwo(int top, Row[] firstSide, int a, Row[] secondSide, int b) {
            int above = top + 1;
            if (above >= MOST_PILED) {
                return 0;
            }
            left[above].copy(left[top]);
            right[above].copy(right[top]);
            firstSide[above].add(a);
            secondSide[top].add(b);
            return 2;
        }

        private int atomsIn(Row row) {
            int set = 0;
            for (int i = 0; i < row.count; i++) {
                int formula = row.formula[i];
                if (formulas.kind[formula] == ATOM) {
                    set |= 1 << formulas.first[formula];
                }
            }
            return set;
        }
    }

    /** The LINES of the PROOF; x and y are 0 where the REASON does not name them. */
    private static final class ProofLines {

        private final FormulaTable formulas;
        private final Prover prover;
        private final int[] formula = new int[MOST_LINES];
        private final int[] reason = new int[MOST_LINES];
        private final int[] x = new int[MOST_LINES];
        private final int[] y = new int[MOST_LINES];
        private final int[] givenLines = new int[MOST_LINES];
        final boolean[] right = new boolean[MOST_LINES];
        int count;

        ProofLines(FormulaTable formulas, Prover prover) {
            this.formulas = formulas;
            this.prover = prover;
        }

        static int linesNamedBy(int reason) {
            switch (reason) {
                case BY_IMPLICATION:
                case BY_BOTH:
                case BY_CONTRADICTION:
                    return 2;
                case BY_FIRST_OF_AND:
                case BY_SECOND_OF_AND:
                case BY_FIRST_OF_OR:
                case BY_SECOND_OF_OR:
                case BY_SEQUENT:
                    return 1;
                default:
                    return 0;
            }
        }

        int add(int itsFormula, int itsReason, int itsX, int itsY) {
            if (count >= MOST_LINES) {
                return NONE;
            }
            int named = linesNamedBy(itsReason);
            formula[count] = itsFormula;
            reason[count] = itsReason;
            x[count] = named >= 1 ? itsX : 0;
            y[count] = named == 2 ? itsY : 0;
            givenLines[count] = givenBelow(named) | (itsReason == GIVEN ? 1 << count : 0);
            count++;
            return count - 1;
        }

        /** The set of GIVEN LINES under those that the LINE being added names. */
        private int givenBelow(int named) {
            int set = named >= 1 ? givenLines[x[count]] : 0;
            return named == 2 ? set | givenLines[y[count]] : set;
        }

        int givenUnder(int line) {
            return Integer.bitCount(givenLines[line]);
        }

        /** A LINE names earlier ones alone, so these are known when it is looked at. */
        void checkUpTo(int last) {
            for (int line = 0; line <= last && line < count; line++) {
                int named = linesNamedBy(reason[line]);
                right[line] = (named < 1 || right[x[line]])
                        && (named < 2 || right[y[line]])
                        && doesReasonHold(line);
            }
        }

        private boolean doesReasonHold(int line) {
            int here = formula[line];
            int ofX = formula[x[line]];
            int ofY = formula[y[line]];
            switch (reason[line]) {
                case GIVEN:
                    return true;
                case BY_IMPLICATION:
                    return isMadeOf(ofY, IMPLIES, ofX, here);
                case BY_BOTH:
                    return isMadeOf(here, AND, ofX, ofY);
                case BY_FIRST_OF_AND:
                    return formulas.kind[ofX] == AND && formulas.first[ofX] == here;
                case BY_SECOND_OF_AND:
                    return formulas.kind[ofX] == AND && formulas.second[ofX] == here;
                case BY_FIRST_OF_OR:
                    return formulas.kind[here] == OR && formulas.first[here] == ofX;
                case BY_SECOND_OF_OR:
                    return formulas.kind[here] == OR && formulas.second[here] == ofX;
                case BY_CONTRADICTION:
                    return formulas.kind[ofY] == NOT && formulas.first[ofY] == ofX;
                case BY_TRUTH:
                    return prover.isTrue(here);
                default:
                    return prover.prove(ofX, here);
            }
        }

        private boolean isMadeOf(int whole, int kind, int a, int b) {
            return formulas.kind[whole] == kind && formulas.first[whole] == a && formulas.second[whole] == b;
        }
    }
}
