/** The REASONS of promise 9: each of them at its edges, and where two fit, the first of them. */
public final class ReasonsTest extends Bench {
    // the LINE that is tried, behind those that bench() lays
    private static final int TRIED = 21;

    // LINES of bench(): 0 to 7 hold the FORMULAS of the same numbers, then come BOXES
    private static final int BOX_A = 8, END_A = 9, SHUT_A = 10;
    private static final int BOX_B = 11, BOX_OF_B_ALONE = 14;
    private static final int BOX_WITH_SHUT_END = 16, BOX_IN_SHUT_BOX = 17, OPEN_BOX = 20;

    private static final int[] NO_INDEX = {LOW, -2, -1, 60, 61, HIGH};
    private static final int[] NOT_AHEAD = {TRIED, TRIED + 1, 58, 59};
    private static final int[] NOT_IN_FORCE = {BOX_A, END_A, SHUT_A, BOX_OF_B_ALONE, BOX_IN_SHUT_BOX, 18, 19};
    private static final int[] NO_FORMULA = {LOW, -1, SOME, SOME + 1, 79, 80, HIGH};
    private static final int[] IN_FORCE = {0, 7, OPEN_BOX};
    private static final int[] NO_BOX = {
        A, SHUT_A, END_A, OPEN_BOX, BOX_IN_SHUT_BOX, BOX_WITH_SHUT_END, BOX_WITH_SHUT_END + 3
    };

    private static final int[] OF_ONE = {AGAIN, LEFT, RIGHT, ONE, OTHER, ANY, SO};
    private static final int[] OF_TWO = {BOTH, THEN};
    private static final int[] OF_FORMULA = {ONE, OTHER, ANY};

    // RULE, p, q, f that make a FORMULA behind readyToMake(), of a form that it has not made
    private static final int[][] MAKERS = {{BOTH, 0, 1, 0}, {ONE, 1, 0, 10}, {OTHER, 1, 0, 10}, {IF, 2, 0, 0}};

    public static void main(String[] args) {
        ruleBounds();
        ruleAheadOfAll();
        numbersNotTaken();
        numbersOfOne();
        numbersOfTwo();
        numbersOfCases();
        numbersOfIf();
        formulaOfGivenAndAssume();
        formulaBehindTheLine();
        formulaAheadOfForm();
        formOfEach();
        formBehindNumbers();
        formAheadOfBoxAndUnlike();
        boxOfShut();
        boxOfIf();
        boxOfCases();
        boxAheadOfUnlike();
        unlikeOfCases();
        unlikeOfThen();
        fullByEighty();
        fullByHeight();
        likeOneIsNeverFull();
        fullBehindAll();
        fullOnlyOfThoseThatMake();
        due.end();
    }

    private static void bench(String part) {
        some(part);
        for (int f = F; f < SOME; f++) {
            given(f);
        }
        assume(A);
        withFormula(ONE, BOX_A, B);
        shut();
        assume(B);
        withFormula(OTHER, BOX_B, A);
        shut();
        assume(B);
        shut();
        assume(A);
        assume(B);
        shut();
        shut();
        assume(A);
        due.is("LINES of the bench", next, TRIED);
        due.is("all follow", x.check(), TRIED);
    }

    /** LINE 21 is laid so and looked at; REASON 0: it follows. */
    private static void tried(String part, int reason, int rule, int p, int q, int r, int f) {
        if (x.left() < 10) {
            bench(part);
        }
        due.part(part);
        String what = "RULE " + rule + " of " + p + ", " + q + ", " + r + ", " + f;
        x.lay(TRIED, rule, p, q, r, f);
        due.is(what + ": check()", x.check(), reason == 0 ? TRIED + 1 : TRIED);
        due.is(what + ": told(0)", x.told(0), reason);
        due.is(what + ": told(1)", x.told(1), reason == 0 ? TRIED + 1 : TRIED);
        if (reason != 0) {
            due.is(what + ": head", x.head(TRIED), NONE);
            due.is(what + ": told(3)", x.told(3), 0);
        }
    }

    private static void ruleBounds() {
        bench("8 RULE");
        for (int rule : beyond(13)) {
            tried("8 RULE: none of 0 to 13", 8, rule, 0, 0, 0, 0);
        }
        tried("8 RULE: 0 is one", 0, 0, 0, 0, 0, 0);
        tried("8 RULE: 13 is one", 0, 13, NOT_NOT_A, 0, 0, 0);
    }

    private static void ruleAheadOfAll() {
        bench("8 RULE, ahead of all");
        for (int rule : new int[] {LOW, -1, 14, HIGH}) {
            for (int number : new int[] {LOW, -1, TRIED, BOX_A, 59, 60, HIGH}) {
                tried("8 RULE, ahead of all", 8, rule, number, number, number, number);
            }
        }
    }

    /** A RULE looks at the numbers that it takes alone, whatever the others are. */
    private static void numbersNotTaken() {
        bench("1 INDEX: a number that its RULE takes");
        for (int n : new int[] {LOW, -1, TRIED, BOX_A, SHUT_A, 59, 60, HIGH}) {
            String part = "numbers that a RULE does not take";
            tried(part, 0, GIVEN, n, n, n, A);
            tried(part, 0, ASSUME, n, n, n, A);
            tried(part, 0, SHUT, n, n, n, n);
            tried(part, 0, AGAIN, A, n, n, n);
            tried(part, 0, BOTH, A, B, n, n);
            tried(part, 0, LEFT, A_AND_B, n, n, n);
            tried(part, 0, RIGHT, A_AND_B, n, n, n);
            tried(part, 0, ONE, A, n, n, B);
            tried(part, 0, OTHER, B, n, n, A);
            tried(part, 0, CASES, A_OR_B, BOX_A, BOX_B, n);
            tried(part, 0, IF, BOX_A, n, n, n);
            tried(part, 0, THEN, A_IMP_B, A, n, n);
            tried(part, 0, ANY, F, n, n, A);
            tried(part, 0, SO, NOT_NOT_A, n, n, n);
            bench(part);
        }
    }

    private static void numbersOfOne() {
        for (int rule : OF_ONE) {
            bench("the LINE p of RULE " + rule);
            for (int p : NO_INDEX) {
                tried("1 INDEX", 1, rule, p, 0, 0, A);
            }
            for (int p : NOT_AHEAD) {
                tried("2 AHEAD", 2, rule, p, 0, 0, A);
            }
            for (int p : NOT_IN_FORCE) {
                tried("3 FORCE", 3, rule, p, 0, 0, A);
            }
        }
        tried("0 is a LINE", 0, AGAIN, 0, 0, 0, 0);
        tried("the LINE just ahead", 0, AGAIN, TRIED - 1, 0, 0, 0);
    }

    /** p with each of the REASONS 1 to 3, or none; then q likewise, of which the first is told. */
    private static void numbersOfTwo() {
        bench("1 to 3 of p, then of q");
        int[][] numbers = {IN_FORCE, NO_INDEX, NOT_AHEAD, NOT_IN_FORCE};
        for (int rule : OF_TWO) {
            for (int ofP = 0; ofP < numbers.length; ofP++) {
                for (int ofQ = 0; ofQ < numbers.length; ofQ++) {
                    for (int i = 0; i < 3; i++) {
                        if (ofP != 0 || ofQ != 0) {
                            tried("1 to 3 of p, then of q", ofP != 0 ? ofP : ofQ,
                                rule, numbers[ofP][i], numbers[ofQ][2 - i], -1, -1);
                        }
                    }
                }
            }
            for (int q : NO_INDEX) {
                tried("1 INDEX of q", 1, rule, A_IMP_B, q, 0, 0);
            }
            for (int q : NOT_AHEAD) {
                tried("2 AHEAD of q", 2, rule, A_IMP_B, q, 0, 0);
            }
            for (int q : NOT_IN_FORCE) {
                tried("3 FORCE of q", 3, rule, A_IMP_B, q, 0, 0);
            }
        }
    }

    /** 1 to 3 of p, then 1 and 2 of q, then 1 and 2 of r: 3 is not asked of q and r of CASES. */
    private static void numbersOfCases() {
        bench("p, then q, then r of CASES");
        int[][] ofPs = {{A_OR_B}, NO_INDEX, NOT_AHEAD, NOT_IN_FORCE};
        int[][] ofBoxes = {{BOX_A, BOX_B}, NO_INDEX, NOT_AHEAD};
        for (int ofP = 0; ofP < ofPs.length; ofP++) {
            for (int ofQ = 0; ofQ < ofBoxes.length; ofQ++) {
                for (int ofR = 0; ofR < ofBoxes.length; ofR++) {
                    int reason = ofP != 0 ? ofP : ofQ != 0 ? ofQ : ofR;
                    for (int p : ofPs[ofP]) {
                        tried("p, then q, then r of CASES", reason,
                            CASES, p, ofBoxes[ofQ][0], ofBoxes[ofR][1], -1);
                    }
                }
            }
        }
        for (int n : NO_INDEX) {
            tried("1 INDEX of q of CASES", 1, CASES, A_OR_B, n, BOX_B, 0);
            tried("1 INDEX of r of CASES", 1, CASES, A_OR_B, BOX_A, n, 0);
        }
        for (int n : NOT_AHEAD) {
            tried("2 AHEAD of q of CASES", 2, CASES, A_OR_B, n, BOX_B, 0);
            tried("2 AHEAD of r of CASES", 2, CASES, A_OR_B, BOX_A, n, 0);
        }
    }

    private static void numbersOfIf() {
        bench("the LINE p of IF");
        for (int p : NO_INDEX) {
            tried("1 INDEX of p of IF", 1, IF, p, 0, 0, 0);
        }
        for (int p : NOT_AHEAD) {
            tried("2 AHEAD of p of IF", 2, IF, p, 0, 0, 0);
        }
        tried("3 FORCE is not asked of p of IF", 0, IF, BOX_A, 0, 0, 0);
        tried("3 FORCE is not asked of p of IF, so it is 5", 5, IF, END_A, 0, 0, 0);
    }

    private static void formulaOfGivenAndAssume() {
        for (int rule : new int[] {GIVEN, ASSUME}) {
            bench("1 INDEX: f of RULE " + rule);
            for (int f : NO_FORMULA) {
                tried("1 INDEX: f", 1, rule, 0, 0, 0, f);
            }
            tried("the first FORMULA", 0, rule, 0, 0, 0, 0);
            tried("the last FORMULA", 0, rule, 0, 0, 0, SOME - 1);
        }
    }

    private static void formulaBehindTheLine() {
        for (int rule : OF_FORMULA) {
            bench("1 INDEX of f, behind 1 to 3 of p, RULE " + rule);
            for (int f : NO_FORMULA) {
                tried("1 of p, 1 of f", 1, rule, -1, 0, 0, f);
                tried("2 of p ahead of 1 of f", 2, rule, TRIED, 0, 0, f);
                tried("3 of p ahead of 1 of f", 3, rule, BOX_A, 0, 0, f);
                tried("3 of p, a SHUT, ahead of 1 of f", 3, rule, SHUT_A, 0, 0, f);
                tried("1 of f", 1, rule, F, 0, 0, f);
            }
        }
        tried("the first FORMULA", 0, ANY, F, 0, 0, 0);
        tried("the last FORMULA", 0, ANY, F, 0, 0, SOME - 1);
    }

    private static void formulaAheadOfForm() {
        bench("1 of f ahead of 4");
        for (int f : NO_FORMULA) {
            tried("1 of f ahead of 4", 1, ANY, A, 0, 0, f);
        }
    }

    private static void formOfEach() {
        int[][] fits = {{LEFT, A_AND_B}, {RIGHT, A_AND_B}, {ANY, F}, {SO, NOT_NOT_A}};
        for (int[] fit : fits) {
            bench("4 FORM of RULE " + fit[0]);
            for (int f = F; f < SOME; f++) {
                tried("4 FORM", f == fit[1] ? 0 : 4, fit[0], f, 0, 0, A);
            }
        }
        bench("4 FORM of CASES and THEN");
        for (int f = F; f < SOME; f++) {
            tried("4 FORM", f == A_OR_B ? 0 : 4, CASES, f, BOX_A, BOX_B, 0);
            int reason = f == A_IMP_B || f == NOT_A ? 0 : f == NOT_NOT_A ? 6 : 4;
            tried("4 FORM", reason, THEN, f, A, 0, 0);
        }
        int[][] nearly = {{IMPLIES, NOT_A, B}, {IMPLIES, A_IMP_B, F}, {IMPLIES, A_AND_B, F}, {AND, NOT_A, F}};
        for (int[] form : nearly) {
            bench("4 FORM of SO, nearly so");
            x.lay(0, GIVEN, 0, 0, 0, x.formula(form[0], form[1], form[2]));
            tried("4 FORM", 4, SO, 0, 0, 0, 0);
        }
        bench("4 FORM of SO, a is FALSE");
        int notFalse = x.formula(IMPLIES, F, F);
        x.lay(0, GIVEN, 0, 0, 0, x.formula(IMPLIES, notFalse, F));
        tried("SO", 0, SO, 0, 0, 0, 0);
        due.is("its HEAD", x.head(TRIED), F);
        x.lay(0, GIVEN, 0, 0, 0, notFalse);
        tried("4 FORM of SO, FALSE IMPLIES FALSE", 4, SO, 0, 0, 0, 0);
    }

    private static void formBehindNumbers() {
        bench("1 to 3 of q and r ahead of 4");
        tried("1 of q ahead of 4", 1, THEN, A, 60, 0, 0);
        tried("2 of q ahead of 4", 2, THEN, A, TRIED, 0, 0);
        tried("3 of q ahead of 4", 3, THEN, A, BOX_A, 0, 0);
        tried("1 of q ahead of 4", 1, CASES, A, -1, BOX_B, 0);
        tried("2 of q ahead of 4", 2, CASES, A, TRIED, BOX_B, 0);
        tried("1 of r ahead of 4", 1, CASES, A, BOX_A, 60, 0);
        tried("2 of r ahead of 4", 2, CASES, A, BOX_A, 59, 0);
        tried("2 of r ahead of 5 of q", 2, CASES, A_OR_B, OPEN_BOX, 59, 0);
        tried("1 of r ahead of 6 of q", 1, CASES, A_OR_B, BOX_B, -1, 0);
    }

    private static void formAheadOfBoxAndUnlike() {
        bench("4 ahead of 5 and 6");
        tried("4 ahead of 5 of q", 4, CASES, A_AND_B, OPEN_BOX, BOX_B, 0);
        tried("4 ahead of 5 of r", 4, CASES, A_AND_B, BOX_A, OPEN_BOX, 0);
        tried("4 ahead of 5 of both", 4, CASES, A, A, A, 0);
        tried("4 ahead of 6 of CASES", 4, CASES, A_IMP_B, BOX_B, BOX_A, 0);
        tried("4 ahead of 6 of THEN", 4, THEN, A_AND_B, B, 0, 0);
    }

    private static void boxOfShut() {
        some("5 BOX of SHUT: no BOX is open");
        shut();
        refused("as LINE 0", 5);
        given(A);
        shut();
        refused("no BOX was opened", 5);
        assume(A);
        stops("SHUT", 0, shut() + 1);
        shut();
        refused("the BOX is shut", 5);
        assume(A);
        assume(B);
        shut();
        stops("the second SHUT", 0, shut() + 1);
        shut();
        refused("both BOXES are shut", 5);
    }

    private static void boxOfIf() {
        bench("5 BOX of IF");
        for (int p : NO_BOX) {
            tried("5 BOX of p of IF", 5, IF, p, 0, 0, 0);
        }
        tried("a BOX of one LINE", 0, IF, BOX_OF_B_ALONE, 0, 0, 0);
        some("5 BOX: another BOX in which it lies is shut, too");
        int outer = assume(A);
        int middle = assume(B);
        int inner = assume(A);
        shut();
        holds("its own is shut alone", by(IF, inner), x.formula(IMPLIES, A, A));
        shut();
        by(IF, inner);
        refused("the one round it is shut, too", 5);
        holds("that one", by(IF, middle), x.formula(IMPLIES, B, SOME));
        shut();
        by(IF, inner);
        refused("both round it are shut", 5);
        by(IF, middle);
        refused("the one round that one is shut", 5);
        holds("the outermost", by(IF, outer), x.formula(IMPLIES, A, SOME + 1));
    }

    private static void boxOfCases() {
        bench("5 BOX of CASES");
        for (int box : NO_BOX) {
            tried("5 BOX of q of CASES", 5, CASES, A_OR_B, box, BOX_B, 0);
            tried("5 BOX of r of CASES", 5, CASES, A_OR_B, BOX_A, box, 0);
            tried("5 BOX of q and r of CASES", 5, CASES, A_OR_B, box, box, 0);
        }
        tried("neither", 0, CASES, A_OR_B, BOX_A, BOX_B, 0);
    }

    private static void boxAheadOfUnlike() {
        bench("5 ahead of 6");
        tried("5 of r ahead of 6 of q", 5, CASES, A_OR_B, BOX_B, OPEN_BOX, 0);
        tried("5 of q ahead of 6 of r", 5, CASES, A_OR_B, OPEN_BOX, BOX_A, 0);
        tried("5 of r ahead of 6, the END a SHUT", 5, CASES, A_OR_B, BOX_A, BOX_WITH_SHUT_END, 0);
    }

    private static void unlikeOfCases() {
        bench("6 UNLIKE of CASES");
        tried("q's", 6, CASES, A_OR_B, BOX_B, BOX_B, 0);
        tried("r's", 6, CASES, A_OR_B, BOX_A, BOX_A, 0);
        tried("q's and r's", 6, CASES, A_OR_B, BOX_B, BOX_A, 0);
        tried("both ENDS", 6, CASES, A_OR_B, BOX_A, BOX_OF_B_ALONE, 0);
        tried("none", 0, CASES, A_OR_B, BOX_A, BOX_B, 0);
        due.is("the END's", x.head(TRIED), A_OR_B);
    }

    private static void unlikeOfThen() {
        bench("6 UNLIKE of THEN");
        for (int q = F; q < SOME; q++) {
            tried("6 UNLIKE of THEN", q == A ? 0 : 6, THEN, A_IMP_B, q, 0, 0);
            tried("6 UNLIKE of THEN", q == NOT_A ? 0 : 6, THEN, NOT_NOT_A, q, 0, 0);
        }
    }

    /** So many FORMULAS; LINES 0 and 1 hold 0 and 1, LINES 2 and 3 are a BOX; LINE 4 may make one. */
    private static void readyToMake(int count) {
        tower("7 FULL: a new FORMULA would be the 81st");
        fillTo(count);
        given(0);
        given(1);
        assume(0);
        shut();
    }

    private static void fullByEighty() {
        for (int[] maker : MAKERS) {
            readyToMake(79);
            line(maker[0], maker[1], maker[2], 0, maker[3]);
            holds("the 80th by RULE " + maker[0], 4, 79);
            due.is("told(3)", x.told(3), 1);
            due.is("formulas()", x.formulas(), 80);
            holds("it again", line(maker[0], maker[1], maker[2], 0, maker[3]), 79);
            readyToMake(80);
            line(maker[0], maker[1], maker[2], 0, maker[3]);
            refused("the 81st by RULE " + maker[0], 7);
            due.is("told(3)", x.told(3), 0);
            due.is("formulas()", x.formulas(), 80);
        }
        readyToMake(79);
        by(BOTH, 0, 1);
        by(BOTH, 1, 0);
        refused("the second of two", 7);
        due.is("told(3)", x.told(3), 1);
        due.is("the 80th stays", x.formulas(), 80);
    }

    private static void madeHigh(int reason, int rule, int p, int q, int f) {
        int k = line(rule, p, q, 0, f);
        if (reason == 0) {
            stops("HEIGHT 12 by RULE " + rule, 0, next);
            due.is("its HEIGHT", x.about(x.head(k), 3), 12);
            next--;
        } else {
            int before = x.formulas();
            refused("HEIGHT 13 by RULE " + rule, reason);
            due.is("formulas()", x.formulas(), before);
        }
    }

    private static void fullByHeight() {
        tower("7 FULL: higher than 12");
        given(0);
        int eleven = given(10);
        int twelve = given(11);
        for (int high = eleven; high <= twelve; high++) {
            int reason = high == eleven ? 0 : 7;
            madeHigh(reason, BOTH, high, 0, 0);
            madeHigh(reason, BOTH, 0, high, 0);
            madeHigh(reason, BOTH, high, high, 0);
            for (int rule : new int[] {ONE, OTHER}) {
                madeHigh(reason, rule, high, 0, 0);
                madeHigh(reason, rule, 0, 0, 9 + high);
                madeHigh(reason, rule, high, 0, 9 + high);
            }
        }
        for (int high = 10; high <= 11; high++) {
            int reason = high == 10 ? 0 : 7;
            tower("7 FULL: higher than 12, by IF");
            given(high);
            given(0);
            int byA = assume(high);
            by(AGAIN, 1);
            shut();
            madeHigh(reason, IF, byA, 0, 0);
            int byB = assume(0);
            by(AGAIN, 0);
            shut();
            madeHigh(reason, IF, byB, 0, 0);
            int byBoth = assume(high);
            shut();
            madeHigh(reason, IF, byBoth, 0, 0);
        }
    }

    private static void likeOneIsNeverFull() {
        tower("7 FULL: a RULE has the one that is LIKE it");
        int if0 = x.formula(IMPLIES, 0, 0);
        fill();
        given(0);
        given(10);
        holds("BOTH, HEIGHT 12", by(BOTH, 1, 1), 11);
        holds("BOTH", by(BOTH, 0, 0), 1);
        int or = x.formula(OR, 0, 3);
        holds("ONE", withFormula(ONE, 0, 3), or);
        int turned = x.formula(OR, 3, 0);
        holds("OTHER", withFormula(OTHER, 0, 3), turned);
        int box = assume(0);
        shut();
        holds("IF", by(IF, box), if0);
        due.is("told(3)", x.told(3), 0);
        due.is("formulas()", x.formulas(), 80);
    }

    private static void fullBehindAll() {
        readyToMake(80);
        due.part("7 FULL: behind all other REASONS");
        by(BOTH, 60, 1);
        refused("1 of p", 1);
        by(BOTH, 0, -1);
        refused("1 of q", 1);
        by(BOTH, 4, 1);
        refused("2 of p", 2);
        by(BOTH, 0, 59);
        refused("2 of q", 2);
        by(BOTH, 2, 1);
        refused("3 of p", 3);
        by(BOTH, 0, 3);
        refused("3 of q", 3);
        for (int rule : new int[] {ONE, OTHER}) {
            withFormula(rule, -1, 10);
            refused("1 of p", 1);
            withFormula(rule, 4, 10);
            refused("2 of p", 2);
            withFormula(rule, 2, 10);
            refused("3 of p", 3);
            withFormula(rule, 1, 80);
            refused("1 of f", 1);
        }
        by(IF, LOW);
        refused("1 of p of IF", 1);
        by(IF, 4);
        refused("2 of p of IF", 2);
        by(IF, 0);
        refused("5 of p of IF", 5);
        assume(11);
        by(IF, 4);
        refused("5 of p of IF, a BOX that is not shut", 5);
    }

    private static void fullOnlyOfThoseThatMake() {
        tower("7 FULL: not of a RULE that makes none");
        int imp = x.formula(IMPLIES, 0, 1);
        int no = x.formula(FALSE, 0, 0);
        int not = x.formula(IMPLIES, 0, no);
        int notNot = x.formula(IMPLIES, not, no);
        int or = x.formula(OR, 0, 0);
        fill();
        holds("GIVEN, HEIGHT 12", given(11), 11);
        holds("LEFT", by(LEFT, 0), 10);
        holds("RIGHT", by(RIGHT, 0), 10);
        holds("AGAIN", by(AGAIN, 0), 11);
        int first = given(0);
        holds("THEN", by(THEN, given(imp), first), 1);
        holds("ANY", withFormula(ANY, given(no), 11), 11);
        holds("SO", by(SO, given(notNot)), 0);
        int either = given(or);
        int box = assume(0);
        by(AGAIN, 0);
        holds("SHUT", shut(), NONE);
        holds("CASES", cases(either, box, box), 11);
        due.is("formulas()", x.formulas(), 80);
    }
}
