import java.util.Arrays;

/**
 * A checker of proofs with boxes: it looks at the LINES of a PROOF one by one and tells the first
 * that does not follow, with the REASON. The words in capitals are those of the document.
 */
public final class BoxProofs {
    public static final int NONE = -1, UNKNOWN = -2, OUTSIDE = -3, FULL = -4;

    private static final int MOST_FORMULAS = 80, MOST_HEIGHT = 12;
    private static final int LETTERS = 6, VALUATIONS = 64, LINES = 60;

    // the forms, by the numbers that formula() takes as kind
    private static final int FALSE = 0, LETTER = 1, AND = 2, OR = 3, IMPLIES = 4;

    private static final int GIVEN = 0, ASSUME = 1, SHUT = 2, AGAIN = 3, BOTH = 4, LEFT = 5, RIGHT = 6;
    private static final int ONE = 7, OTHER = 8, CASES = 9, IF = 10, THEN = 11, ANY = 12, SO = 13;

    // how many of p, q, r each RULE takes
    private static final int[] LINES_TAKEN = {0, 0, 0, 1, 2, 1, 1, 1, 1, 3, 1, 2, 1, 1};

    // the REASONS; NO_ROOM is the document's 7 FULL, which has the name of an answer
    private static final int FOLLOWS = 0, INDEX = 1, AHEAD = 2, FORCE = 3, FORM = 4;
    private static final int BOX = 5, UNLIKE = 6, NO_ROOM = 7, RULE = 8;

    // what told() tells of
    private static final int TOLD_REASON = 0, TOLD_LINE = 1, TOLD_OPEN = 2, TOLD_NEW = 3, TOLD_ALL = 4;

    private final Formulas known = new Formulas();
    private final Lines proof = new Lines();
    private final Findings findings = new Findings();

    public BoxProofs() {
    }

    public int formula(int kind, int a, int b) {
        switch (kind) {
            case FALSE:
                return known.make(FALSE, NONE, NONE);
            case LETTER:
                return isLetter(a) ? known.make(LETTER, a, NONE) : OUTSIDE;
            case AND:
            case OR:
            case IMPLIES:
                return known.has(a) && known.has(b) ? known.make(kind, a, b) : UNKNOWN;
            default:
                return OUTSIDE;
        }
    }

    public int about(int f, int what) {
        if (!known.has(f)) {
            return UNKNOWN;
        }
        switch (what) {
            case 0:
                return known.kindOf(f);
            case 1:
                return known.firstOf(f);
            case 2:
                return known.secondOf(f);
            case 3:
                return known.heightOf(f);
            default:
                return OUTSIDE;
        }
    }

    public int value(int f, int valuation) {
        if (!known.has(f)) {
            return UNKNOWN;
        }
        if (valuation < 0 || valuation >= VALUATIONS) {
            return OUTSIDE;
        }
        return (int) (known.tableOf(f) >>> valuation & 1L);
    }

    public int truths(int f) {
        return known.has(f) ? Long.bitCount(known.tableOf(f)) : UNKNOWN;
    }

    public int instead(int f, int n, int by) {
        if (!known.has(f) || !known.has(by)) {
            return UNKNOWN;
        }
        return isLetter(n) ? known.replace(f, n, by) : OUTSIDE;
    }

    public int lay(int k, int rule, int p, int q, int r, int f) {
        if (!isLine(k)) {
            return OUTSIDE;
        }
        boolean wasLaid = proof.isLaid(k);
        proof.put(k, rule, p, q, r, f);
        return wasLaid ? 0 : 1;
    }

    public int take(int k) {
        if (!isLine(k)) {
            return OUTSIDE;
        }
        boolean wasLaid = proof.isLaid(k);
        proof.clear(k);
        return wasLaid ? 1 : 0;
    }

    public int check() {
        int before = known.count();
        int reason = FOLLOWS;
        int k = 0;
        findings.forget();
        while (k < LINES && proof.isLaid(k)) {
            reason = lookAt(k);
            if (reason != FOLLOWS) {
                break;
            }
            k++;
        }
        findings.sumUp(reason, k, known.count() - before);
        return k;
    }

    public int told(int what) {
        return what >= 0 && what < TOLD_ALL ? findings.summaryOf(what) : OUTSIDE;
    }

    public int head(int k) {
        return isLine(k) ? findings.headOf(k) : OUTSIDE;
    }

    public int force(int k) {
        if (!isLine(k)) {
            return OUTSIDE;
        }
        return findings.isInForce(k) ? 1 : 0;
    }

    public int hangs(int k, int i) {
        return isLine(k) ? findings.groundOf(k, i) : OUTSIDE;
    }

    public int sound(int k) {
        if (!isLine(k)) {
            return OUTSIDE;
        }
        if (findings.headOf(k) == NONE) {
            return NONE;
        }
        return (groundsTable(k) & ~known.tableOf(findings.headOf(k))) == 0L ? 1 : 0;
    }

    public int formulas() {
        return known.count();
    }

    private int lookAt(int k) {
        int reason = reasonAgainst(k);
        if (reason != FOLLOWS) {
            return reason;
        }
        int head = conclude(k);
        if (head == FULL) {
            return NO_ROOM;
        }
        findings.keep(k, proof.ruleOf(k), head);
        return FOLLOWS;
    }

    /** The REASON that refuses LINE k, all but NO_ROOM, which only the making of its HEAD tells. */
    private int reasonAgainst(int k) {
        int rule = proof.ruleOf(k);
        if (rule < 0 || rule >= LINES_TAKEN.length) {
            return RULE;
        }
        int reason = reasonAgainstNumbers(k, rule, LINES_TAKEN[rule]);
        if (reason != FOLLOWS) {
            return reason;
        }
        if (!isFormRight(rule, findings.headOf(proof.pOf(k)))) {
            return FORM;
        }
        if (!areBoxesRight(k, rule)) {
            return BOX;
        }
        return areAllLike(k, rule) ? FOLLOWS : UNLIKE;
    }

    private int reasonAgainstNumbers(int k, int rule, int taken) {
        int reason = FOLLOWS;
        if (taken >= 1) {
            reason = reasonAgainstLine(k, proof.pOf(k), rule != IF);
        }
        if (reason == FOLLOWS && taken >= 2) {
            reason = reasonAgainstLine(k, proof.qOf(k), rule != CASES);
        }
        if (reason == FOLLOWS && taken >= 3) {
            reason = reasonAgainstLine(k, proof.rOf(k), rule != CASES);
        }
        if (reason == FOLLOWS && takesFormula(rule) && !known.has(proof.formulaOf(k))) {
            reason = INDEX;
        }
        return reason;
    }

    private int reasonAgainstLine(int k, int used, boolean forceAsked) {
        if (!isLine(used)) {
            return INDEX;
        }
        if (used >= k) {
            return AHEAD;
        }
        return forceAsked && !findings.isInForce(used) ? FORCE : FOLLOWS;
    }

    private static boolean takesFormula(int rule) {
        return rule == GIVEN || rule == ASSUME || rule == ONE || rule == OTHER || rule == ANY;
    }

    private boolean isFormRight(int rule, int held) {
        switch (rule) {
            case LEFT:
            case RIGHT:
                return known.kindOf(held) == AND;
            case CASES:
                return known.kindOf(held) == OR;
            case THEN:
                return known.kindOf(held) == IMPLIES;
            case ANY:
                return known.kindOf(held) == FALSE;
            case SO:
                return isNegation(held) && isNegation(known.firstOf(held));
            default:
                return true;
        }
    }

    private boolean isNegation(int f) {
        return known.kindOf(f) == IMPLIES && known.kindOf(known.secondOf(f)) == FALSE;
    }

    private boolean areBoxesRight(int k, int rule) {
        switch (rule) {
            case SHUT:
                return findings.innermostOpen() != NONE;
            case CASES:
                return findings.isUsableBox(proof.qOf(k)) && findings.isUsableBox(proof.rOf(k));
            case IF:
                return findings.isUsableBox(proof.pOf(k));
            default:
                return true;
        }
    }

    private boolean areAllLike(int k, int rule) {
        int held = findings.headOf(proof.pOf(k));
        int q = proof.qOf(k);
        int r = proof.rOf(k);
        switch (rule) {
            case CASES:
                return findings.headOf(q) == known.firstOf(held)
                    && findings.headOf(r) == known.secondOf(held)
                    && heldAtEnd(q) == heldAtEnd(r);
            case THEN:
                return findings.headOf(q) == known.firstOf(held);
            default:
                return true;
        }
    }

    private int heldAtEnd(int box) {
        return findings.headOf(findings.endOf(box));
    }

    /** The HEAD of LINE k, against which no other REASON stands: NONE of SHUT; or FULL. */
    private int conclude(int k) {
        int p = proof.pOf(k);
        int held = findings.headOf(p);
        int f = proof.formulaOf(k);
        switch (proof.ruleOf(k)) {
            case GIVEN:
            case ASSUME:
            case ANY:
                return f;
            case AGAIN:
                return held;
            case BOTH:
                return known.make(AND, held, findings.headOf(proof.qOf(k)));
            case LEFT:
                return known.firstOf(held);
            case RIGHT:
            case THEN:
                return known.secondOf(held);
            case ONE:
                return known.make(OR, held, f);
            case OTHER:
                return known.make(OR, f, held);
            case CASES:
                return heldAtEnd(proof.qOf(k));
            case IF:
                return known.make(IMPLIES, held, heldAtEnd(p));
            case SO:
                return known.firstOf(known.firstOf(held));
            default:
                return NONE;
        }
    }

    /** The VALUATIONS, one a bit, by which all that the HEAD of LINE k hangs on is true. */
    private long groundsTable(int k) {
        long table = -1L;
        for (int j = 0; j <= k && j < LINES; j++) {
            if (findings.isGround(j, k)) {
                table &= known.tableOf(findings.headOf(j));
            }
        }
        return table;
    }

    private static boolean isLine(int k) {
        return k >= 0 && k < LINES;
    }

    private static boolean isLetter(int n) {
        return n >= 0 && n < LETTERS;
    }

    /**
     * The FORMULAS. No two of them are LIKE, so being LIKE is having the same number, here and
     * wherever FORMULAS are compared.
     */
    private static final class Formulas {
        // bit v of the n-th is bit n of v: the VALUES of LETTER n by all VALUATIONS at once
        private static final long[] LETTER_TABLES = {
            0xAAAAAAAAAAAAAAAAL, 0xCCCCCCCCCCCCCCCCL, 0xF0F0F0F0F0F0F0F0L,
            0xFF00FF00FF00FF00L, 0xFFFF0000FFFF0000L, 0xFFFFFFFF00000000L
        };

        private final int[] kinds = new int[MOST_FORMULAS];
        private final int[] firsts = new int[MOST_FORMULAS];
        private final int[] seconds = new int[MOST_FORMULAS];
        private final int[] heights = new int[MOST_FORMULAS];
        private final long[] tables = new long[MOST_FORMULAS];
        // what replace() has made of each FORMULA so far: shared parts would cost 2^11 steps without it
        private final int[] replaced = new int[MOST_FORMULAS];
        private int count = 0;

        int count() {
            return count;
        }

        boolean has(int f) {
            return f >= 0 && f < count;
        }

        int kindOf(int f) {
            return has(f) ? kinds[f] : NONE;
        }

        int firstOf(int f) {
            return has(f) ? firsts[f] : NONE;
        }

        int secondOf(int f) {
            return has(f) ? seconds[f] : NONE;
        }

        int heightOf(int f) {
            return has(f) ? heights[f] : 0;
        }

        long tableOf(int f) {
            return has(f) ? tables[f] : 0L;
        }

        /** The number of the FORMULA of this form, a new one if there is none LIKE it, or FULL. */
        int make(int kind, int a, int b) {
            int like = find(kind, a, b);
            if (like != NONE) {
                return like;
            }
            int height = kind < AND ? 1 : 1 + Math.max(heightOf(a), heightOf(b));
            if (count >= MOST_FORMULAS || height > MOST_HEIGHT) {
                return FULL;
            }
            kinds[count] = kind;
            firsts[count] = a;
            seconds[count] = b;
            heights[count] = height;
            tables[count] = tableFor(kind, a, b);
            count++;
            return count - 1;
        }

        private int find(int kind, int a, int b) {
            for (int f = 0; f < count; f++) {
                if (kinds[f] == kind && firsts[f] == a && seconds[f] == b) {
                    return f;
                }
            }
            return NONE;
        }

        private long tableFor(int kind, int a, int b) {
            switch (kind) {
                case LETTER:
                    return isLetter(a) ? LETTER_TABLES[a] : 0L;
                case AND:
                    return tableOf(a) & tableOf(b);
                case OR:
                    return tableOf(a) | tableOf(b);
                case IMPLIES:
                    return ~tableOf(a) | tableOf(b);
                default:
                    return 0L;
            }
        }

        /** The number of FORMULA f with by in place of each LETTER n, or FULL. */
        int replace(int f, int n, int by) {
            Arrays.fill(replaced, NONE);
            return replaceIn(f, n, by, 1);
        }

        private int replaceIn(int f, int n, int by, int depth) {
            if (depth > MOST_HEIGHT || !has(f)) {
                return FULL;
            }
            if (kinds[f] < AND) {
                return kinds[f] == LETTER && firsts[f] == n ? by : f;
            }
            if (replaced[f] != NONE) {
                return replaced[f];
            }
            int a = replaceIn(firsts[f], n, by, depth + 1);
            if (a == FULL) {
                return FULL;
            }
            int b = replaceIn(seconds[f], n, by, depth + 1);
            if (b == FULL) {
                return FULL;
            }
            replaced[f] = make(kinds[f], a, b);
            return replaced[f];
        }
    }

    /** The PROOF as it is laid; what its numbers mean is asked only when it is looked at. */
    private static final class Lines {
        private final boolean[] laid = new boolean[LINES];
        private final int[] rules = new int[LINES];
        private final int[] ps = new int[LINES];
        private final int[] qs = new int[LINES];
        private final int[] rs = new int[LINES];
        private final int[] fs = new int[LINES];

        boolean isLaid(int k) {
            return isLine(k) && laid[k];
        }

        void put(int k, int rule, int p, int q, int r, int f) {
            if (isLine(k)) {
                laid[k] = true;
                rules[k] = rule;
                ps[k] = p;
                qs[k] = q;
                rs[k] = r;
                fs[k] = f;
            }
        }

        void clear(int k) {
            if (isLine(k)) {
                laid[k] = false;
            }
        }

        int ruleOf(int k) {
            return isLine(k) ? rules[k] : NONE;
        }

        int pOf(int k) {
            return isLine(k) ? ps[k] : NONE;
        }

        int qOf(int k) {
            return isLine(k) ? qs[k] : NONE;
        }

        int rOf(int k) {
            return isLine(k) ? rs[k] : NONE;
        }

        int formulaOf(int k) {
            return isLine(k) ? fs[k] : NONE;
        }
    }

    /**
     * What the latest check() found. It keeps RULES of its own, since LINES may be laid anew and
     * taken behind a check() without a change of what that check() tells.
     */
    private static final class Findings {
        private final int[] rules = new int[LINES];
        private final int[] heads = new int[LINES];
        // of an ASSUME the END of its BOX, NONE while that is open
        private final int[] ends = new int[LINES];
        private final boolean[] inForce = new boolean[LINES];
        // the ASSUMES whose BOXES CASES and IF may use: those that no REASON 5 stands against
        private final boolean[] usable = new boolean[LINES];
        private final int[] summary = {NONE, NONE, NONE, NONE};

        Findings() {
            forget();
        }

        void forget() {
            for (int k = 0; k < LINES; k++) {
                rules[k] = NONE;
                heads[k] = NONE;
                ends[k] = NONE;
                inForce[k] = false;
                usable[k] = false;
            }
        }

        void sumUp(int reason, int line, int made) {
            summary[TOLD_REASON] = reason;
            summary[TOLD_LINE] = line;
            summary[TOLD_OPEN] = countOpen();
            summary[TOLD_NEW] = made;
        }

        int summaryOf(int what) {
            return what >= 0 && what < summary.length ? summary[what] : NONE;
        }

        void keep(int k, int rule, int head) {
            if (!isLine(k)) {
                return;
            }
            rules[k] = rule;
            heads[k] = head;
            inForce[k] = head != NONE;
            if (rule == SHUT) {
                shutBox(innermostOpen(), k - 1);
            }
        }

        private void shutBox(int box, int end) {
            if (!isLine(box) || !isLine(end)) {
                return;
            }
            for (int j = box; j <= end; j++) {
                inForce[j] = false;
                usable[j] = false;
            }
            ends[box] = end;
            usable[box] = rules[end] != SHUT;
        }

        int ruleOf(int k) {
            return isLine(k) ? rules[k] : NONE;
        }

        int headOf(int k) {
            return isLine(k) ? heads[k] : NONE;
        }

        int endOf(int box) {
            return isLine(box) ? ends[box] : NONE;
        }

        /** The ASSUME of the innermost BOX that is open, or NONE. */
        int innermostOpen() {
            for (int j = LINES - 1; j >= 0; j--) {
                if (isOpenBox(j)) {
                    return j;
                }
            }
            return NONE;
        }

        private int countOpen() {
            int open = 0;
            for (int j = 0; j < LINES; j++) {
                if (isOpenBox(j)) {
                    open++;
                }
            }
            return open;
        }

        private boolean isOpenBox(int j) {
            return isLine(j) && rules[j] == ASSUME && ends[j] == NONE;
        }

        private boolean liesInBox(int k, int box) {
            return ruleOf(box) == ASSUME && box <= k && (endOf(box) == NONE || k <= endOf(box));
        }

        boolean isInForce(int k) {
            return isLine(k) && inForce[k];
        }

        boolean isUsableBox(int k) {
            return isLine(k) && usable[k];
        }

        /** Whether LINE j, which is not behind LINE k, is one of those that the HEAD of k hangs on. */
        boolean isGround(int j, int k) {
            return ruleOf(j) == GIVEN || liesInBox(k, j);
        }

        /** The i-th LINE that the HEAD of LINE k hangs on, or NONE. */
        int groundOf(int k, int i) {
            if (headOf(k) == NONE) {
                return NONE;
            }
            int seen = 0;
            for (int j = 0; j <= k && j < LINES; j++) {
                if (isGround(j, k)) {
                    if (seen == i) {
                        return j;
                    }
                    seen++;
                }
            }
            return NONE;
        }
    }
}
