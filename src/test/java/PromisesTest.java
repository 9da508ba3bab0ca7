/** Each promise of the document by hand-written calls: ordinary ones, the edges, and wrong ones. */
public final class PromisesTest extends Bench {
    public static void main(String[] args) {
        newObject();
        formula();
        formulaFull();
        about();
        value();
        truths();
        instead();
        insteadFull();
        lay();
        take();
        checkRulesThatFollow();
        checkIndexAheadForce();
        checkOrderOfReasons();
        checkForm();
        checkBox();
        checkUnlike();
        checkFull();
        checkRule();
        checkStops();
        told();
        head();
        force();
        hangs();
        sound();
        formulas();
        findingsOutlastChanges();
        due.end();
    }

    private static void newObject() {
        start("1 a new object");
        due.is("formulas()", x.formulas(), 0);
        due.is("about(0, 0)", x.about(0, 0), UNKNOWN);
        for (int k = 0; k < 60; k++) {
            due.is("head", x.head(k), NONE);
            due.is("force", x.force(k), 0);
            due.is("hangs", x.hangs(k, 0), NONE);
            due.is("sound", x.sound(k), NONE);
            due.is("take", x.take(k), 0);
        }
        due.is("check()", x.check(), 0);
        BoxProofs other = new BoxProofs();
        other.formula(FALSE, 0, 0);
        other.lay(0, GIVEN, 0, 0, 0, 0);
        due.is("check() of one beside another", x.check(), 0);
        due.is("formulas() of one beside another", x.formulas(), 0);
    }

    private static void formula() {
        start("2 formula");
        due.is("AND of none", x.formula(AND, 0, 0), UNKNOWN);
        due.is("LETTER 5", x.formula(LETTER, 5, LOW), 0);
        due.is("FALSE", x.formula(FALSE, HIGH, LOW), 1);
        due.is("FALSE again", x.formula(FALSE, 3, 4), 1);
        due.is("LETTER 5 again", x.formula(LETTER, 5, 3), 0);
        due.is("LETTER 0", x.formula(LETTER, 0, 0), 2);
        due.is("AND", x.formula(AND, 0, 1), 3);
        due.is("AND turned", x.formula(AND, 1, 0), 4);
        due.is("OR", x.formula(OR, 0, 1), 5);
        due.is("IMPLIES", x.formula(IMPLIES, 0, 1), 6);
        due.is("AND again", x.formula(AND, 0, 1), 3);
        due.is("OR again", x.formula(OR, 0, 1), 5);
        due.is("IMPLIES again", x.formula(IMPLIES, 0, 1), 6);
        for (int kind = AND; kind <= IMPLIES; kind++) {
            due.is("a 7", x.formula(kind, 7, 0), UNKNOWN);
            due.is("b 7", x.formula(kind, 0, 7), UNKNOWN);
            due.is("a -1", x.formula(kind, -1, 0), UNKNOWN);
            due.is("b lowest", x.formula(kind, 0, LOW), UNKNOWN);
            due.is("a highest", x.formula(kind, HIGH, 0), UNKNOWN);
        }
        due.is("LETTER 6", x.formula(LETTER, 6, 0), OUTSIDE);
        due.is("LETTER -1", x.formula(LETTER, -1, 0), OUTSIDE);
        due.is("kind 5, a unknown", x.formula(5, 99, 99), OUTSIDE);
        due.is("kind -1", x.formula(-1, 0, 0), OUTSIDE);
        due.is("kind lowest", x.formula(LOW, 0, 0), OUTSIDE);
        due.is("formulas()", x.formulas(), 7);
    }

    private static void formulaFull() {
        tower("2 formula: FULL");
        due.is("height 13 by a", x.formula(OR, 11, 0), FULL);
        due.is("height 13 by b", x.formula(IMPLIES, 0, 11), FULL);
        due.is("height 12 by b", x.formula(AND, 0, 10), 12);
        due.is("formulas()", x.formulas(), 13);
        fill();
        due.is("81st", x.formula(IMPLIES, 0, 0), FULL);
        due.is("81st, a LETTER", x.formula(LETTER, 1, 0), FULL);
        due.is("81st, FALSE", x.formula(FALSE, 0, 0), FULL);
        due.is("one that there is", x.formula(AND, 0, 10), 12);
        due.is("a LETTER that there is", x.formula(LETTER, 0, 0), 0);
        due.is("UNKNOWN ahead of FULL", x.formula(AND, 0, 80), UNKNOWN);
        due.is("OUTSIDE ahead of FULL", x.formula(LETTER, 6, 0), OUTSIDE);
        due.is("about(79, 0)", x.about(79, 0), OR);
        due.is("formulas()", x.formulas(), 80);
    }

    private static void about() {
        some("3 about");
        int[][] want = {
            {FALSE, NONE, NONE, 1}, {LETTER, 0, NONE, 1}, {LETTER, 1, NONE, 1}, {AND, A, B, 2},
            {OR, A, B, 2}, {IMPLIES, A, B, 2}, {IMPLIES, A, F, 2}, {IMPLIES, NOT_A, F, 3}
        };
        for (int f = 0; f < want.length; f++) {
            for (int what = 0; what < 4; what++) {
                due.is("about(" + f + ", " + what + ")", x.about(f, what), want[f][what]);
            }
        }
        int lop = x.formula(OR, B, NOT_NOT_A);
        due.is("height by b", x.about(lop, 3), 4);
        due.is("height by a", x.about(x.formula(OR, lop, B), 3), 5);
        due.is("what 4", x.about(F, 4), OUTSIDE);
        due.is("what -1", x.about(F, -1), OUTSIDE);
        due.is("f -1", x.about(-1, 0), UNKNOWN);
        due.is("f 10, what 4", x.about(10, 4), UNKNOWN);
        due.is("f highest", x.about(HIGH, 0), UNKNOWN);
    }

    private static void value() {
        some("4 value");
        for (int v = 0; v < 64; v++) {
            int a = v & 1;
            int b = v >> 1 & 1;
            due.is("FALSE", x.value(F, v), 0);
            due.is("A", x.value(A, v), a);
            due.is("B", x.value(B, v), b);
            due.is("AND", x.value(A_AND_B, v), a & b);
            due.is("OR", x.value(A_OR_B, v), a | b);
            due.is("IMPLIES", x.value(A_IMP_B, v), 1 - a | b);
            due.is("not", x.value(NOT_A, v), 1 - a);
        }
        start("4 value: letters");
        for (int n = 0; n < 6; n++) {
            int f = x.formula(LETTER, 5 - n, 0);
            for (int v = 0; v < 64; v++) {
                due.is("LETTER " + (5 - n), x.value(f, v), v >> 5 - n & 1);
            }
        }
        due.is("64", x.value(0, 64), OUTSIDE);
        due.is("-1", x.value(0, -1), OUTSIDE);
        due.is("f 6, 64", x.value(6, 64), UNKNOWN);
        due.is("f -1", x.value(-1, 0), UNKNOWN);
    }

    private static void truths() {
        some("5 truths");
        int[] want = {0, 32, 32, 16, 48, 48, 32, 32};
        for (int f = 0; f < want.length; f++) {
            due.is("truths(" + f + ")", x.truths(f), want[f]);
        }
        due.is("always", x.truths(x.formula(IMPLIES, F, F)), 64);
        due.is("f -1", x.truths(-1), UNKNOWN);
        due.is("f 9", x.truths(9), UNKNOWN);
    }

    private static void instead() {
        some("6 instead");
        due.is("of another LETTER", x.instead(B, 0, F), B);
        due.is("of the LETTER", x.instead(A, 0, A_AND_B), A_AND_B);
        due.is("of FALSE", x.instead(F, 0, A), F);
        due.is("by itself", x.instead(NOT_NOT_A, 0, A), NOT_NOT_A);
        due.is("of none in it", x.instead(NOT_NOT_A, 5, F), NOT_NOT_A);
        due.is("formulas()", x.formulas(), SOME);
        int both = x.formula(OR, A_IMP_B, A_AND_B);
        due.is("by one that holds it", x.instead(both, 0, NOT_A), both + 3);
        due.is("a comes first", x.formula(IMPLIES, NOT_A, B), both + 1);
        due.is("then b", x.formula(AND, NOT_A, B), both + 2);
        due.is("then itself", x.formula(OR, both + 1, both + 2), both + 3);
        due.is("both places", x.instead(x.formula(AND, A, A), 0, B), both + 5);
        due.is("it", x.formula(AND, B, B), both + 5);
        due.is("n 6", x.instead(A, 6, A), OUTSIDE);
        due.is("n -1", x.instead(A, -1, A), OUTSIDE);
        due.is("f unknown, n 6", x.instead(99, 6, A), UNKNOWN);
        due.is("by unknown, n 6", x.instead(A, 6, 99), UNKNOWN);
        due.is("by -1, not in f", x.instead(F, 0, -1), UNKNOWN);
        due.is("f -1", x.instead(-1, 0, F), UNKNOWN);
    }

    private static void insteadFull() {
        tower("6 instead: FULL");
        int b = x.formula(LETTER, 1, 0);
        due.is("as high", x.instead(11, 0, b), b + 11);
        int higher = x.formula(OR, 0, 0);
        due.is("height 13", x.instead(11, 0, higher), FULL);
        due.is("what is new stays", x.formulas(), higher + 11);
        fill();
        due.is("all that it needs is there", x.instead(11, 0, b), b + 11);
        due.is("one that is there", x.instead(1, 0, 2), 3);
        due.is("the 81st", x.instead(1, 0, 70), FULL);
        due.is("formulas()", x.formulas(), 80);
        insteadFullOnTheWay();
    }

    /** What is FULL ends it: of an a that is FULL the b is not begun. */
    private static void insteadFullOnTheWay() {
        tower("6 instead: FULL on the way");
        int b = x.formula(LETTER, 1, 0);
        int low = x.formula(OR, b, b);
        int high = x.formula(AND, x.formula(AND, b, b), b);
        int lowFirst = x.formula(IMPLIES, low, high);
        int highFirst = x.formula(IMPLIES, high, low);
        int before = x.formulas();
        due.is("a too high", x.instead(highFirst, 1, 10), FULL);
        due.is("b is not made", x.formulas(), before);
        due.is("b too high", x.instead(lowFirst, 1, 10), FULL);
        due.is("a was made", x.formulas(), before + 1);
        due.is("it is", x.formula(OR, 10, 10), before);
    }

    private static void lay() {
        start("7 lay");
        due.is("lay(0)", x.lay(0, GIVEN, LOW, LOW, LOW, LOW), 1);
        due.is("lay(0) anew", x.lay(0, GIVEN, 0, 0, 0, 0), 0);
        due.is("lay(59)", x.lay(59, HIGH, HIGH, HIGH, HIGH, HIGH), 1);
        due.is("lay(59) anew", x.lay(59, LOW, 0, 0, 0, 0), 0);
        due.is("lay(60)", x.lay(60, GIVEN, 0, 0, 0, 0), OUTSIDE);
        due.is("lay(-1)", x.lay(-1, GIVEN, 0, 0, 0, 0), OUTSIDE);
        due.is("lay lowest", x.lay(LOW, GIVEN, 0, 0, 0, 0), OUTSIDE);
        x.formula(LETTER, 2, 0);
        stops("it is the latter one", 0, 1);
        due.is("lay(0) anew", x.lay(0, GIVEN, 0, 0, 0, 1), 0);
        stops("it is the last one", 1, 0);
    }

    private static void take() {
        some("8 take");
        given(A);
        given(B);
        due.is("take(1)", x.take(1), 1);
        due.is("take(1) again", x.take(1), 0);
        stops("up to what is taken", 0, 1);
        due.is("lay(1)", x.lay(1, GIVEN, 0, 0, 0, B), 1);
        stops("laid again", 0, 2);
        due.is("take(0)", x.take(0), 1);
        stops("none at first", 0, 0);
        due.is("take(59)", x.take(59), 0);
        due.is("take(60)", x.take(60), OUTSIDE);
        due.is("take(-1)", x.take(-1), OUTSIDE);
        due.is("take highest", x.take(HIGH), OUTSIDE);
    }

    private static void checkRulesThatFollow() {
        some("9 check: each rule");
        holds("GIVEN", given(NOT_NOT_A), NOT_NOT_A);
        holds("SO", by(SO, 0), A);
        holds("GIVEN", given(A_IMP_B), A_IMP_B);
        holds("THEN", by(THEN, 2, 1), B);
        holds("AGAIN", by(AGAIN, 1), A);
        holds("BOTH", by(BOTH, 1, 3), A_AND_B);
        holds("BOTH turned", by(BOTH, 3, 1), SOME);
        holds("LEFT", by(LEFT, 6), B);
        holds("RIGHT", by(RIGHT, 6), A);
        holds("ONE", withFormula(ONE, 1, B), A_OR_B);
        holds("OTHER", withFormula(OTHER, 3, A), A_OR_B);
        int box = assume(F);
        holds("ASSUME", box, F);
        holds("ANY", withFormula(ANY, box, NOT_A), NOT_A);
        holds("SHUT", shut(), NONE);
        holds("IF", by(IF, box), SOME + 1);
        due.is("F implies not A", x.formula(IMPLIES, F, NOT_A), SOME + 1);
        int one = assume(A);
        shut();
        int two = assume(B);
        by(AGAIN, 1);
        shut();
        holds("CASES", cases(9, one, two), A);
        int alone = by(IF, one);
        holds("IF of a BOX with one LINE", alone, SOME + 2);
        due.is("A implies A", x.formula(IMPLIES, A, A), SOME + 2);
    }

    private static void checkIndexAheadForce() {
        int[] takeOne = {AGAIN, BOTH, LEFT, RIGHT, ONE, OTHER, CASES, IF, THEN, ANY, SO};
        for (int rule : takeOne) {
            some("9 check: numbers of rule " + rule);
            given(A);
            assume(A);
            shut();
            line(rule, -1, 0, 0, A);
            refused("p -1", 1);
            line(rule, 60, 0, 0, A);
            refused("p 60", 1);
            line(rule, 3, 0, 0, A);
            refused("p itself", 2);
            line(rule, 59, 0, 0, A);
            refused("p 59", 2);
            line(rule, 1, 0, 0, A);
            if (rule == IF) {
                holds("force is not asked of IF", 3, SOME);
            } else {
                refused("p in a shut box", 3);
                line(rule, 2, 0, 0, A);
                refused("p a SHUT", 3);
            }
        }
        for (int rule : new int[] {BOTH, THEN}) {
            some("9 check: q of rule " + rule);
            given(A_IMP_B);
            assume(A);
            shut();
            by(rule, 0, -1);
            refused("q -1", 1);
            by(rule, 0, 60);
            refused("q 60", 1);
            by(rule, 0, 3);
            refused("q itself", 2);
            by(rule, 0, 1);
            refused("q in a shut box", 3);
        }
        for (int rule : new int[] {GIVEN, ASSUME, ONE, OTHER, ANY}) {
            some("9 check: f of rule " + rule);
            given(F);
            withFormula(rule, 0, SOME);
            refused("f unknown", 1);
            withFormula(rule, 0, -1);
            refused("f -1", 1);
        }
        some("9 check: f that the check makes");
        given(A);
        by(BOTH, 0, 0);
        given(SOME);
        stops("f is there by then", 0, 3);
    }

    private static void checkOrderOfReasons() {
        some("9 check: order of reasons");
        given(A);
        assume(A);
        shut();
        by(BOTH, 1, 60);
        refused("3 of p ahead of 1 of q", 3);
        by(BOTH, 5, 60);
        refused("2 of p ahead of 1 of q", 2);
        cases(0, 5, -1);
        refused("2 of q ahead of 1 of r", 2);
        cases(1, -1, -1);
        refused("3 of p ahead of 1 of q, CASES", 3);
        cases(0, 0, 7);
        refused("2 of r ahead of 4", 2);
        withFormula(ONE, 1, 99);
        refused("3 of p ahead of 1 of f", 3);
        withFormula(ANY, 0, 99);
        refused("1 of f ahead of 4", 1);
        cases(0, 0, 0);
        refused("4 ahead of 5", 4);
        by(THEN, 0, 1);
        refused("3 of q ahead of 4", 3);
        by(THEN, 0, 0);
        refused("4 ahead of 6", 4);
        int or = given(A_OR_B);
        cases(or, 1, or);
        refused("5 of r ahead of 6", 5);
        assume(B);
        shut();
        cases(or, 4, or);
        refused("5 of r ahead of 6 of q", 5);
        line(14, -1, -1, -1, -1);
        refused("8 ahead of all", 8);
    }

    private static void checkForm() {
        some("9 check: form");
        for (int f = F; f < SOME; f++) {
            given(f);
        }
        int[][] fits = {{LEFT, A_AND_B}, {RIGHT, A_AND_B}, {ANY, F}, {SO, NOT_NOT_A}};
        for (int[] fit : fits) {
            for (int f = F; f < SOME; f++) {
                line(fit[0], f, 0, 0, B);
                if (f != fit[1]) {
                    refused("rule " + fit[0] + " of " + f, 4);
                } else {
                    stops("rule " + fit[0] + " of " + f, 0, SOME + 1);
                    next--;
                }
            }
        }
        for (int f = F; f < SOME; f++) {
            if (f != A_OR_B) {
                cases(f, 0, 0);
                refused("CASES of " + f, 4);
            }
            if (f < A_IMP_B) {
                by(THEN, f, A);
                refused("THEN of " + f, 4);
            }
        }
        int notAImpliesB = x.formula(IMPLIES, NOT_A, B);
        by(SO, given(notAImpliesB));
        refused("SO of (a implies F) implies b", 4);
        int aImpliesBImpliesF = x.formula(IMPLIES, A_IMP_B, F);
        by(SO, given(aImpliesBImpliesF));
        refused("SO of (a implies b) implies F", 4);
        int andFirst = x.formula(IMPLIES, x.formula(AND, A, F), F);
        by(SO, given(andFirst));
        refused("SO of (a and F) implies F", 4);
    }

    private static void checkBox() {
        some("9 check: box");
        shut();
        refused("SHUT without a BOX", 5);
        given(A_OR_B);
        int outer = assume(A);
        by(IF, outer);
        refused("IF of a BOX that is not shut", 5);
        int inner = assume(B);
        shut();
        by(IF, inner);
        stops("IF of an inner BOX, the outer one open", 0, 5);
        next--;
        shut();
        by(IF, inner);
        refused("IF of an inner BOX, the outer one shut too", 5);
        by(IF, outer);
        refused("IF of a BOX whose END is a SHUT", 5);
        by(IF, 0);
        refused("IF of no ASSUME", 5);
        by(IF, 3);
        refused("IF of a SHUT", 5);
        shut();
        refused("SHUT too often", 5);
        int a = assume(A);
        withFormula(ONE, a, B);
        shut();
        int b = assume(B);
        withFormula(OTHER, b, A);
        cases(0, a, b);
        refused("CASES, r not shut", 5);
        cases(0, b, a);
        refused("CASES, q not shut", 5);
        shut();
        cases(0, outer, b);
        refused("CASES, END of q a SHUT", 5);
        cases(0, a, inner);
        refused("CASES, r lies in another that is shut", 5);
        cases(0, 0, b);
        refused("CASES, q no ASSUME", 5);
        cases(0, a, 0);
        refused("CASES, r no ASSUME", 5);
        holds("CASES", cases(0, a, b), A_OR_B);
    }

    private static void checkUnlike() {
        some("9 check: unlike");
        int or = given(A_OR_B);
        int imp = given(A_IMP_B);
        int a = assume(A);
        by(THEN, imp, a);
        shut();
        int b = assume(B);
        shut();
        int b2 = assume(B);
        by(BOTH, b2, b2);
        shut();
        holds("CASES", cases(or, a, b), B);
        cases(or, b, a);
        refused("CASES turned", 6);
        cases(or, a, a);
        refused("CASES, r assumes another", 6);
        cases(or, b, b);
        refused("CASES, q assumes another", 6);
        cases(or, a, b2);
        refused("CASES, ENDS unlike", 6);
        by(THEN, imp, or);
        refused("THEN of another", 6);
        by(THEN, imp, imp);
        refused("THEN of itself", 6);
        int aOrA = given(x.formula(OR, A, A));
        holds("CASES of one BOX twice", cases(aOrA, a, a), B);
    }

    private static void checkFull() {
        tower("9 check: full");
        given(11);
        given(0);
        by(BOTH, 0, 1);
        refused("BOTH, height 13", 7);
        withFormula(ONE, 1, 11);
        refused("ONE, height 13", 7);
        withFormula(OTHER, 1, 11);
        refused("OTHER, height 13", 7);
        assume(11);
        by(AGAIN, 1);
        shut();
        by(IF, 2);
        refused("IF, height 13", 7);
        due.is("none is made", x.told(3), 0);
        fill();
        by(BOTH, 1, 1);
        stops("BOTH of one that there is", 0, next);
        due.is("head", x.head(next - 1), 1);
        int or = withFormula(ONE, 1, 10);
        refused("ONE, the 81st", 7);
        withFormula(OTHER, 1, 10);
        refused("OTHER, the 81st", 7);
        by(BOTH, 1, or - 1);
        refused("BOTH, the 81st", 7);
        assume(0);
        shut();
        by(IF, or);
        refused("IF, the 81st", 7);
        due.is("formulas()", x.formulas(), 80);
    }

    private static void checkRule() {
        some("9 check: rule");
        for (int rule : new int[] {14, -1, LOW, HIGH}) {
            line(rule, 0, 0, 0, 0);
            refused("rule " + rule, 8);
        }
    }

    private static void checkStops() {
        some("9 check: where it stops");
        for (int k = 0; k < 60; k++) {
            given(A);
        }
        stops("all 60", 0, 60);
        due.is("told(2)", x.told(2), 0);
        due.is("head(59)", x.head(59), A);
        x.take(30);
        stops("at NOTHING", 0, 30);
        due.is("head(31)", x.head(31), NONE);
        x.lay(7, LEFT, 0, 0, 0, 0);
        stops("at the first that is refused", 4, 7);
        due.is("head(8)", x.head(8), NONE);
        x.lay(59, LEFT, 58, 0, 0, 0);
        x.lay(7, GIVEN, 0, 0, 0, A);
        x.lay(30, GIVEN, 0, 0, 0, A);
        stops("at the last one", 4, 59);
    }

    private static void told() {
        some("10 told");
        for (int what = 0; what < 4; what++) {
            due.is("ahead of any", x.told(what), NONE);
        }
        due.is("told(4) ahead of any", x.told(4), OUTSIDE);
        due.is("told(-1)", x.told(-1), OUTSIDE);
        assume(A);
        assume(B);
        by(BOTH, 0, 0);
        assume(A);
        shut();
        withFormula(ONE, 2, F);
        stops("two BOXES", 0, 6);
        due.is("told(2)", x.told(2), 2);
        due.is("told(3)", x.told(3), 2);
        by(AGAIN, 3);
        refused("AGAIN", 3);
        due.is("told(2)", x.told(2), 2);
        due.is("told(3)", x.told(3), 0);
        shut();
        shut();
        stops("no BOX", 0, 8);
        due.is("told(2)", x.told(2), 0);
        x.formula(LETTER, 4, 0);
        due.is("told(3) is of the check", x.told(3), 0);
        due.is("told(4)", x.told(4), OUTSIDE);
        due.is("told highest", x.told(HIGH), OUTSIDE);
    }

    private static void head() {
        some("11 head");
        given(B);
        assume(A);
        shut();
        by(LEFT, 0);
        given(B);
        due.is("ahead of any check", x.head(0), NONE);
        stops("LEFT", 4, 3);
        due.is("head(0)", x.head(0), B);
        due.is("head(1)", x.head(1), A);
        due.is("head(2)", x.head(2), NONE);
        due.is("head(3)", x.head(3), NONE);
        due.is("head(4)", x.head(4), NONE);
        due.is("head(59)", x.head(59), NONE);
        due.is("head(60)", x.head(60), OUTSIDE);
        due.is("head(-1)", x.head(-1), OUTSIDE);
    }

    private static void force() {
        some("12 force");
        given(A);
        assume(A);
        assume(B);
        by(AGAIN, 0);
        shut();
        by(AGAIN, 1);
        int[] want = {1, 1, 0, 0, 0, 1, 0};
        due.is("ahead of any check", x.force(0), 0);
        x.check();
        for (int k = 0; k < want.length; k++) {
            due.is("force(" + k + ")", x.force(k), want[k]);
        }
        shut();
        by(AGAIN, 0);
        x.check();
        int[] then = {1, 0, 0, 0, 0, 0, 0, 1, 0};
        for (int k = 0; k < then.length; k++) {
            due.is("force(" + k + ") then", x.force(k), then[k]);
        }
        due.is("force(59)", x.force(59), 0);
        due.is("force(60)", x.force(60), OUTSIDE);
        due.is("force(-1)", x.force(-1), OUTSIDE);
    }

    private static void hangs() {
        some("13 hangs");
        assume(A);
        given(A);
        assume(B);
        given(B);
        by(AGAIN, 0);
        shut();
        by(AGAIN, 0);
        shut();
        by(AGAIN, 1);
        due.is("ahead of any check", x.hangs(1, 0), NONE);
        stops("a GIVEN in a shut BOX", 3, 8);
        next = 8;
        given(F);
        given(F);
        x.check();
        hangsOn(0, 0);
        hangsOn(1, 0, 1);
        hangsOn(2, 0, 1, 2);
        hangsOn(4, 0, 1, 2, 3);
        hangsOn(5);
        hangsOn(6, 0, 1, 3);
        hangsOn(7);
        hangsOn(8, 1, 3, 8);
        hangsOn(9, 1, 3, 8, 9);
        hangsOn(10);
        due.is("i -1", x.hangs(9, -1), NONE);
        due.is("i lowest", x.hangs(9, LOW), NONE);
        due.is("i highest", x.hangs(9, HIGH), NONE);
        due.is("hangs(60, 0)", x.hangs(60, 0), OUTSIDE);
        due.is("hangs(-1, -1)", x.hangs(-1, -1), OUTSIDE);
    }

    private static void sound() {
        some("14 sound");
        int box = assume(NOT_A);
        int deep = assume(A);
        by(THEN, box, deep);
        withFormula(ANY, 2, B);
        shut();
        by(IF, deep);
        shut();
        by(IF, box);
        due.is("ahead of any check", x.sound(0), NONE);
        stops("a proof from nothing", 0, 8);
        for (int k = 0; k < 8; k++) {
            due.is("sound(" + k + ")", x.sound(k), k == 4 || k == 6 ? NONE : 1);
        }
        due.is("true by all", x.truths(x.head(7)), 64);
        due.is("sound(8)", x.sound(8), NONE);
        due.is("sound(60)", x.sound(60), OUTSIDE);
        due.is("sound(-1)", x.sound(-1), OUTSIDE);
    }

    private static void formulas() {
        start("15 formulas");
        due.is("none", x.formulas(), 0);
        x.formula(LETTER, 0, 0);
        due.is("one", x.formulas(), 1);
        x.formula(LETTER, 0, 0);
        x.formula(LETTER, 9, 0);
        x.formula(AND, 0, 5);
        due.is("no more by one that there is, or a refused call", x.formulas(), 1);
        given(0);
        by(BOTH, 0, 0);
        due.is("no more by lay", x.formulas(), 1);
        x.check();
        due.is("one more by check", x.formulas(), 2);
        x.instead(1, 0, 1);
        due.is("one more by instead", x.formulas(), 3);
    }

    /** What the latest check() told stays, however the LINES change behind it. */
    private static void findingsOutlastChanges() {
        some("10 to 14: by the latest check");
        given(A);
        assume(B);
        by(BOTH, 0, 1);
        shut();
        by(IF, 1);
        stops("as laid", 0, 5);
        int head = x.head(4);
        for (int k = 0; k < 5; k++) {
            x.lay(k, k == 3 ? GIVEN : ASSUME, 0, 0, 0, F);
        }
        x.take(4);
        due.is("told(1)", x.told(1), 5);
        due.is("told(2)", x.told(2), 0);
        due.is("told(3)", x.told(3), 1);
        due.is("head(0)", x.head(0), A);
        due.is("head(3)", x.head(3), NONE);
        due.is("head(4)", x.head(4), head);
        due.is("force(1)", x.force(1), 0);
        due.is("force(4)", x.force(4), 1);
        hangsOn(2, 0, 1);
        hangsOn(4, 0);
        due.is("sound(4)", x.sound(4), 1);
        x.take(0);
        stops("none is left at first", 0, 0);
        due.is("head(4) then", x.head(4), NONE);
        due.is("force(0) then", x.force(0), 0);
    }
}
