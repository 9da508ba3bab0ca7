/** The boundary cases of FORMULAS: promises 1 to 6 and 15, a test for each sentence that names one. */
public final class FormulaBoundsTest extends Bench {
    private static final int[] OF_TWO = {AND, OR, IMPLIES};

    public static void main(String[] args) {
        emptyObject();
        numbersBeginAtZero();
        kindBounds();
        letterBounds();
        partsHaveLesserNumbers();
        noTwoAreLike();
        eightyReached();
        eightyPassed();
        likeOnesWhenFull();
        heightReached();
        heightPassed();
        heightOfThoseOfTwo();
        firstThatFitsOfFormula();
        aboutBounds();
        aboutOfFalseAndLetters();
        valuationBounds();
        valuesAtBothEnds();
        truthsBounds();
        truthsLeastAndMost();
        insteadBounds();
        insteadFirstThatFits();
        insteadNeedsNothingNew();
        insteadReachesEighty();
        insteadPassesEighty();
        insteadReachesHeight();
        insteadPassesHeight();
        insteadEndsAtTheFirstFull();
        insteadOfAHighOneWithSharedParts();
        due.end();
    }

    /** FALSE, the LETTERS 0 to 5, then a AND b and a OR b of these. */
    private static void lowFormulas(int count) {
        x.formula(FALSE, 0, 0);
        for (int n = 0; n < 6; n++) {
            x.formula(LETTER, n, 0);
        }
        for (int pair = 0; pair < count - 7; pair++) {
            due.is("FORMULA", x.formula(pair < 49 ? AND : OR, pair % 49 / 7, pair % 7), pair + 7);
        }
        due.is("formulas()", x.formulas(), count);
    }

    private static void emptyObject() {
        start("1 No FORMULAS");
        due.is("formulas()", x.formulas(), 0);
        for (int f : new int[] {LOW, -1, 0, 1, 79, 80, HIGH}) {
            due.is("about(" + f + ", 0)", x.about(f, 0), UNKNOWN);
            due.is("value(" + f + ", 0)", x.value(f, 0), UNKNOWN);
            due.is("truths(" + f + ")", x.truths(f), UNKNOWN);
            due.is("instead(" + f + ", 0, " + f + ")", x.instead(f, 0, f), UNKNOWN);
            for (int kind : OF_TWO) {
                due.is("formula(" + kind + ", " + f + ", " + f + ")", x.formula(kind, f, f), UNKNOWN);
            }
        }
        due.is("formulas() then", x.formulas(), 0);
    }

    private static void numbersBeginAtZero() {
        start("Terms: FORMULAS 0, 1, ..");
        due.is("a LETTER", x.formula(LETTER, 3, 0), 0);
        due.is("FALSE", x.formula(FALSE, 0, 0), 1);
        due.is("OR", x.formula(OR, 0, 1), 2);
        due.is("formulas()", x.formulas(), 3);
    }

    private static void kindBounds() {
        start("2 OUTSIDE: kind");
        due.is("kind 0", x.formula(0, 0, 0), 0);
        due.is("kind 4", x.formula(4, 0, 0), 1);
        for (int kind : beyond(4)) {
            due.is("kind " + kind, x.formula(kind, 0, 0), OUTSIDE);
            due.is("kind " + kind + " of none", x.formula(kind, 80, -1), OUTSIDE);
        }
        due.is("formulas()", x.formulas(), 2);
    }

    private static void letterBounds() {
        start("2 OUTSIDE: a of 1 (a LETTER 0 to 5)");
        for (int n : beyond(5)) {
            due.is("LETTER " + n, x.formula(LETTER, n, 0), OUTSIDE);
        }
        due.is("formulas()", x.formulas(), 0);
        for (int n = 0; n < 6; n++) {
            due.is("LETTER " + n, x.formula(LETTER, n, LOW), n);
            due.is("its number", x.about(n, 1), n);
        }
    }

    private static void partsHaveLesserNumbers() {
        start("2 UNKNOWN (a, b of 2 to 4): FORMULAS a, b with lesser numbers");
        x.formula(LETTER, 0, 0);
        x.formula(LETTER, 1, 0);
        for (int kind : OF_TWO) {
            due.is("the next number as a", x.formula(kind, 2, 0), UNKNOWN);
            due.is("the next number as b", x.formula(kind, 0, 2), UNKNOWN);
            for (int f : beyond(1)) {
                due.is("a " + f, x.formula(kind, f, 0), UNKNOWN);
                due.is("b " + f, x.formula(kind, 0, f), UNKNOWN);
                due.is("both " + f, x.formula(kind, f, f), UNKNOWN);
            }
        }
        due.is("formulas()", x.formulas(), 2);
        for (int kind : OF_TWO) {
            due.is("the last number as both", x.formula(kind, 1, 1), kind);
        }
    }

    private static void noTwoAreLike() {
        start("Terms: no two numbers are LIKE");
        int[][] forms = {
            {FALSE, 0, 0}, {LETTER, 0, 0}, {LETTER, 1, 0}, {LETTER, 5, 0}, {AND, 1, 2}, {AND, 2, 1}, {OR, 1, 2},
            {OR, 2, 1}, {IMPLIES, 1, 2}, {IMPLIES, 2, 1}, {AND, 1, 1}, {AND, 4, 5}, {AND, 5, 4}, {OR, 0, 0}
        };
        for (int round = 0; round < 2; round++) {
            for (int f = 0; f < forms.length; f++) {
                due.is("form " + f, x.formula(forms[f][0], forms[f][1], forms[f][2]), f);
            }
        }
        due.is("FALSE, whatever a and b", x.formula(FALSE, LOW, HIGH), 0);
        due.is("a LETTER, whatever b", x.formula(LETTER, 5, HIGH), 3);
        due.is("formulas()", x.formulas(), forms.length);
    }

    private static void eightyReached() {
        int[][] last = {{FALSE, 0, 0}, {LETTER, 5, 0}, {AND, 0, 78}, {OR, 78, 0}, {IMPLIES, 78, 78}};
        for (int[] form : last) {
            tower("Terms: 80 at most, reached by kind " + form[0]);
            fillTo(79);
            due.is("the 80th", x.formula(form[0], form[1], form[2]), 79);
            due.is("formulas()", x.formulas(), 80);
            due.is("its kind", x.about(79, 0), form[0]);
            due.is("its truths", x.truths(79) >= 0 ? 1 : 0, 1);
            due.is("it again", x.formula(form[0], form[1], form[2]), 79);
        }
    }

    private static void eightyPassed() {
        int[][] more = {{FALSE, 0, 0}, {LETTER, 5, 0}, {AND, 0, 79}, {OR, 79, 0}, {IMPLIES, 79, 79}};
        for (int[] form : more) {
            tower("2 FULL: 80, by kind " + form[0]);
            fillTo(80);
            due.is("the 81st", x.formula(form[0], form[1], form[2]), FULL);
            due.is("and again", x.formula(form[0], form[1], form[2]), FULL);
            due.is("formulas()", x.formulas(), 80);
            due.is("about(80, 0)", x.about(80, 0), UNKNOWN);
        }
    }

    private static void likeOnesWhenFull() {
        start("2 the one that is LIKE it, also when there are 80");
        lowFormulas(80);
        due.is("FALSE", x.formula(FALSE, 0, 0), 0);
        for (int n = 0; n < 6; n++) {
            due.is("LETTER " + n, x.formula(LETTER, n, 0), n + 1);
        }
        due.is("the first of two", x.formula(AND, 0, 0), 7);
        due.is("the last one", x.formula(OR, x.about(79, 1), x.about(79, 2)), 79);
        due.is("another", x.formula(IMPLIES, 0, 0), FULL);
    }

    private static void heightReached() {
        for (int kind : OF_TWO) {
            tower("Terms: HEIGHT 12, reached by kind " + kind);
            due.is("HEIGHT 11", x.about(10, 3), 11);
            due.is("by a", x.formula(kind, 10, 0), 12);
            due.is("by b", x.formula(kind, 0, 10), 13);
            due.is("HEIGHT by a", x.about(12, 3), 12);
            due.is("HEIGHT by b", x.about(13, 3), 12);
            due.is("HEIGHT by both", x.about(x.formula(kind, 10, 10), 3), 12);
        }
    }

    private static void heightPassed() {
        for (int kind : OF_TWO) {
            tower("2 FULL: HEIGHT, by kind " + kind);
            due.is("HEIGHT 12", x.about(11, 3), 12);
            due.is("by a", x.formula(kind, 11, 0), FULL);
            due.is("by b", x.formula(kind, 0, 11), FULL);
            due.is("by both", x.formula(kind, 11, 11), FULL);
            due.is("formulas()", x.formulas(), 12);
            due.is("a low one is made still", x.formula(kind, 0, 1), 12);
        }
    }

    private static void heightOfThoseOfTwo() {
        start("Terms: HEIGHT: 1, of those of two 1 more than the greater of both");
        due.is("of FALSE", x.about(x.formula(FALSE, 0, 0), 3), 1);
        for (int n = 0; n < 6; n++) {
            due.is("of a LETTER", x.about(x.formula(LETTER, n, 0), 3), 1);
        }
        int two = x.formula(AND, 0, 1);
        int three = x.formula(OR, two, 0);
        due.is("of 1 and 1", x.about(two, 3), 2);
        due.is("of 2 and 1", x.about(three, 3), 3);
        due.is("of 1 and 3", x.about(x.formula(IMPLIES, 0, three), 3), 4);
        due.is("of 3 and 2", x.about(x.formula(IMPLIES, three, two), 3), 4);
        due.is("of 3 and 3", x.about(x.formula(OR, three, three), 3), 4);
    }

    private static void firstThatFitsOfFormula() {
        tower("2 the first that fits of UNKNOWN, OUTSIDE, FULL");
        due.is("too high, b unknown", x.formula(AND, 11, 12), UNKNOWN);
        due.is("too high, a unknown", x.formula(AND, -1, 11), UNKNOWN);
        fill();
        for (int kind : OF_TWO) {
            due.is("a unknown, 80", x.formula(kind, 80, 0), UNKNOWN);
            due.is("b unknown, 80", x.formula(kind, 0, -1), UNKNOWN);
        }
        due.is("LETTER 6, 80", x.formula(LETTER, 6, 0), OUTSIDE);
        due.is("LETTER -1, 80", x.formula(LETTER, -1, 0), OUTSIDE);
        due.is("kind 5, 80", x.formula(5, 11, 11), OUTSIDE);
        due.is("kind -1, 80, a and b unknown", x.formula(-1, 80, 80), OUTSIDE);
    }

    private static void aboutBounds() {
        some("3 UNKNOWN; OUTSIDE");
        for (int f : beyond(SOME - 1)) {
            due.is("f " + f, x.about(f, 0), UNKNOWN);
            due.is("f " + f + ", what 3", x.about(f, 3), UNKNOWN);
            due.is("f " + f + ", what 4", x.about(f, 4), UNKNOWN);
            due.is("f " + f + ", what -1", x.about(f, -1), UNKNOWN);
        }
        for (int what : beyond(3)) {
            due.is("what " + what, x.about(0, what), OUTSIDE);
            due.is("what " + what + " of the last", x.about(SOME - 1, what), OUTSIDE);
        }
        due.is("what 0 of the last", x.about(SOME - 1, 0), IMPLIES);
        due.is("what 3 of the last", x.about(SOME - 1, 3), 3);
        due.is("what 0 of the first", x.about(0, 0), FALSE);
        due.is("what 3 of the first", x.about(0, 3), 1);
    }

    private static void aboutOfFalseAndLetters() {
        start("3 a (of a LETTER its number; NONE of FALSE), b (NONE)");
        int five = x.formula(LETTER, 5, 4);
        int zero = x.formula(LETTER, 0, 4);
        int no = x.formula(FALSE, 3, 4);
        due.is("a of LETTER 5", x.about(five, 1), 5);
        due.is("b of LETTER 5", x.about(five, 2), NONE);
        due.is("a of LETTER 0", x.about(zero, 1), 0);
        due.is("b of LETTER 0", x.about(zero, 2), NONE);
        due.is("a of FALSE", x.about(no, 1), NONE);
        due.is("b of FALSE", x.about(no, 2), NONE);
        due.is("b that is FORMULA 0", x.about(x.formula(AND, no, five), 2), five);
    }

    private static void valuationBounds() {
        some("4 UNKNOWN; OUTSIDE (a VALUATION 0 to 63)");
        int always = x.formula(IMPLIES, F, F);
        due.is("0", x.value(always, 0), 1);
        due.is("63", x.value(always, 63), 1);
        for (int v : beyond(63)) {
            due.is("VALUATION " + v, x.value(always, v), OUTSIDE);
            due.is("VALUATION " + v + " of FALSE", x.value(F, v), OUTSIDE);
        }
        for (int f : beyond(always)) {
            due.is("f " + f, x.value(f, 0), UNKNOWN);
            due.is("f " + f + ", 63", x.value(f, 63), UNKNOWN);
            due.is("f " + f + ", 64", x.value(f, 64), UNKNOWN);
            due.is("f " + f + ", -1", x.value(f, -1), UNKNOWN);
        }
    }

    private static void valuesAtBothEnds() {
        start("Terms: LETTER n is true, when bit n of it is 1");
        for (int n = 0; n < 6; n++) {
            int f = x.formula(LETTER, n, 0);
            due.is("LETTER " + n + " by 0", x.value(f, 0), 0);
            due.is("LETTER " + n + " by 63", x.value(f, 63), 1);
            due.is("LETTER " + n + " by its bit", x.value(f, 1 << n), 1);
            due.is("LETTER " + n + " by all but its bit", x.value(f, 63 - (1 << n)), 0);
        }
        int no = x.formula(FALSE, 0, 0);
        int yes = x.formula(IMPLIES, no, no);
        int[] of = {no, yes};
        for (int v : new int[] {0, 63}) {
            for (int a = 0; a < 2; a++) {
                for (int b = 0; b < 2; b++) {
                    due.is("AND", x.value(x.formula(AND, of[a], of[b]), v), a * b);
                    due.is("OR", x.value(x.formula(OR, of[a], of[b]), v), Math.max(a, b));
                    due.is("IMPLIES", x.value(x.formula(IMPLIES, of[a], of[b]), v), a <= b ? 1 : 0);
                }
            }
        }
    }

    private static void truthsBounds() {
        some("5 UNKNOWN");
        for (int f : beyond(SOME - 1)) {
            due.is("f " + f, x.truths(f), UNKNOWN);
        }
        due.is("the first", x.truths(0), 0);
        due.is("the last", x.truths(SOME - 1), 32);
    }

    private static void truthsLeastAndMost() {
        start("5 by none, by one, by all but one, by all 64");
        int no = x.formula(FALSE, 0, 0);
        int all = x.formula(LETTER, 0, 0);
        int any = all;
        for (int n = 1; n < 6; n++) {
            int letter = x.formula(LETTER, n, 0);
            all = x.formula(AND, all, letter);
            any = x.formula(OR, any, letter);
        }
        due.is("by none", x.truths(no), 0);
        due.is("by one", x.truths(all), 1);
        due.is("that is 63", x.value(all, 63), 1);
        due.is("by all but one", x.truths(any), 63);
        due.is("that is 0", x.value(any, 0), 0);
        due.is("by all", x.truths(x.formula(IMPLIES, no, no)), 64);
    }

    private static void insteadBounds() {
        some("6 UNKNOWN; OUTSIDE: n");
        for (int f : beyond(SOME - 1)) {
            due.is("f " + f, x.instead(f, 0, A), UNKNOWN);
            due.is("by " + f, x.instead(A, 0, f), UNKNOWN);
            due.is("by " + f + ", LETTER 5 is not in f", x.instead(A, 5, f), UNKNOWN);
        }
        for (int n : beyond(5)) {
            due.is("n " + n, x.instead(A_AND_B, n, F), OUTSIDE);
            due.is("n " + n + " of FALSE", x.instead(F, n, F), OUTSIDE);
        }
        due.is("formulas()", x.formulas(), SOME);
        for (int n = 0; n < 6; n++) {
            int letter = x.formula(LETTER, n, 0);
            due.is("n " + n, x.instead(letter, n, SOME - 1), SOME - 1);
            due.is("n " + n + " by the first", x.instead(letter, n, 0), 0);
            due.is("n " + n + " is another", x.instead(letter, n == 5 ? 0 : n + 1, F), letter);
        }
    }

    private static void insteadFirstThatFits() {
        tower("6 the first that fits of UNKNOWN, OUTSIDE, FULL");
        int higher = x.formula(OR, 0, 0);
        fill();
        due.is("FULL", x.instead(11, 0, higher), FULL);
        due.is("n 6", x.instead(11, 6, higher), OUTSIDE);
        due.is("n -1", x.instead(11, -1, higher), OUTSIDE);
        due.is("by unknown", x.instead(11, 0, 80), UNKNOWN);
        due.is("f unknown", x.instead(80, 0, higher), UNKNOWN);
        due.is("by unknown, n 6", x.instead(11, 6, -1), UNKNOWN);
        due.is("f unknown, n -1", x.instead(-1, -1, higher), UNKNOWN);
        due.is("both unknown, n highest", x.instead(LOW, HIGH, HIGH), UNKNOWN);
    }

    private static void insteadNeedsNothingNew() {
        tower("6 nothing new is needed, also when there are 80");
        fill();
        due.is("LETTER 5 is not in it", x.instead(11, 5, 79), 11);
        due.is("by the LETTER itself", x.instead(11, 0, 0), 11);
        due.is("the LETTER alone", x.instead(0, 0, 79), 79);
        due.is("one that there is", x.instead(1, 0, 10), 11);
        due.is("formulas()", x.formulas(), 80);
    }

    private static void insteadReachesEighty() {
        tower("6 FULL: 80, reached");
        int letter = x.formula(LETTER, 5, 0);
        fillTo(77);
        due.is("of a, of b and itself are the 78th to the 80th", x.instead(3, 0, letter), 79);
        due.is("formulas()", x.formulas(), 80);
        due.is("the 78th", x.formula(AND, letter, letter), 77);
        due.is("the 79th", x.formula(AND, 77, 77), 78);
        due.is("the 80th", x.formula(AND, 78, 78), 79);
    }

    private static void insteadPassesEighty() {
        tower("6 FULL: 80, passed (what is new by then stays)");
        int letter = x.formula(LETTER, 5, 0);
        fillTo(78);
        due.is("itself is the 81st", x.instead(3, 0, letter), FULL);
        due.is("formulas()", x.formulas(), 80);
        due.is("the 79th stays", x.formula(AND, letter, letter), 78);
        due.is("the 80th stays", x.formula(AND, 78, 78), 79);
        due.is("the 81st is not", x.formula(AND, 79, 79), FULL);
        tower("6 FULL: 80, passed by b, a stays");
        letter = x.formula(LETTER, 5, 0);
        int two = x.formula(IMPLIES, x.formula(IMPLIES, 0, 0), x.formula(AND, 0, 1));
        fillTo(79);
        due.is("b is the 81st", x.instead(two, 0, letter), FULL);
        due.is("a stays", x.formula(IMPLIES, letter, letter), 79);
        due.is("formulas()", x.formulas(), 80);
    }

    private static void insteadReachesHeight() {
        tower("6 FULL: HEIGHT, reached");
        due.is("HEIGHT 2 in place of 1 in HEIGHT 11", x.instead(10, 0, 1), 11);
        due.is("HEIGHT 12 in place of a LETTER alone", x.instead(0, 0, 11), 11);
        int other = x.formula(LETTER, 1, 0);
        int low = x.formula(OR, other, 0);
        due.is("HEIGHT 11 in place of a LETTER in HEIGHT 2", x.about(x.instead(low, 1, 10), 3), 12);
        due.is("formulas()", x.formulas(), 15);
        due.is("HEIGHT 1 in HEIGHT 12", x.about(x.instead(11, 0, other), 3), 12);
    }

    private static void insteadPassesHeight() {
        tower("6 FULL: HEIGHT, passed (what is new by then stays)");
        int high = x.formula(OR, 0, 0);
        due.is("HEIGHT 2 in place of 1 in HEIGHT 12", x.instead(11, 0, high), FULL);
        due.is("formulas()", x.formulas(), 23);
        for (int f = 13; f < 23; f++) {
            due.is("a of FORMULA " + f, x.about(f, 1), f - 1);
            due.is("b of FORMULA " + f, x.about(f, 2), f - 1);
        }
        due.is("HEIGHT of the last", x.about(22, 3), 12);
        due.is("HEIGHT 12 in HEIGHT 2", x.instead(high, 0, 11), FULL);
        due.is("formulas() then", x.formulas(), 23);
    }

    /** A part that is FULL ends it, how deep it ever lies: no b behind an a, none that holds it. */
    private static void insteadEndsAtTheFirstFull() {
        tower("6 FULL of a part: what is new by then stays, and no more is made");
        int other = x.formula(LETTER, 1, 0);
        int low = x.formula(OR, other, other);
        int high = x.formula(AND, low, other);
        int highest = x.formula(AND, x.formula(AND, high, other), other);
        int aFull = x.formula(IMPLIES, highest, x.formula(IMPLIES, other, other));
        int bFull = x.formula(IMPLIES, x.formula(IMPLIES, other, other), highest);
        int lowBesideFull = x.formula(IMPLIES, 0, highest);
        int fullBesideLow = x.formula(IMPLIES, highest, 0);
        int before = x.formulas();
        due.is("in a, HEIGHT", x.instead(aFull, 1, 10), FULL);
        due.is("the lowest part alone is new", x.formulas(), before + 1);
        due.is("it", x.formula(OR, 10, 10), before);
        due.is("in b, HEIGHT", x.instead(bFull, 1, 10), FULL);
        due.is("a is new", x.formulas(), before + 2);
        due.is("it", x.formula(IMPLIES, 10, 10), before + 1);
        due.is("in b again, with nothing new", x.instead(bFull, 1, 10), FULL);
        due.is("in b, a is low", x.instead(lowBesideFull, 1, 10), FULL);
        due.is("in a, b is low", x.instead(fullBesideLow, 1, 10), FULL);
        due.is("formulas()", x.formulas(), before + 2);
        fillTo(79);
        due.is("in a, 80", x.instead(aFull, 1, 0), FULL);
        due.is("the 80th", x.about(79, 0), AND);
        due.is("its a", x.about(79, 1), x.formula(OR, 0, 0));
        due.is("its b", x.about(79, 2), 0);
    }

    private static void insteadOfAHighOneWithSharedParts() {
        tower("6 each part is made once");
        int other = x.formula(LETTER, 1, 0);
        due.is("instead", x.instead(11, 0, other), 23);
        due.is("formulas()", x.formulas(), 24);
        for (int f = 13; f < 24; f++) {
            due.is("a of FORMULA " + f, x.about(f, 1), f - 1);
            due.is("HEIGHT of FORMULA " + f, x.about(f, 3), f - 11);
        }
    }
}
