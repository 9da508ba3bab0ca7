/** The boundary cases of LINES, BOXES and of what a check() tells: promises 1 and 7 to 14. */
public final class LineBoundsTest extends Bench {
    public static void main(String[] args) {
        emptyProof();
        layBounds();
        layAnyNumbers();
        laidOnceAndAgain();
        takeBounds();
        takenOnceAndAgain();
        upToTheFirstNothing();
        upToTheFirstRefused();
        checkAgain();
        checkForgetsTheFormerOne();
        formulaMadeBehindLay();
        formulaMadeByTheCheck();
        sixtyGiven();
        sixtyAssumed();
        thirtyBoxesBesideEachOther();
        thirtyBoxesInEachOther();
        lastLineUsesTheOneAhead();
        lastLineRefused();
        boxOfOneLine();
        toldAheadOfAny();
        toldBounds();
        toldOpenBoxes();
        toldNewFormulas();
        headBounds();
        headOfNone();
        forceBounds();
        forceWhereItStopped();
        shutIsNeverInForce();
        hangsBounds();
        hangsByIndex();
        hangsOfNoHead();
        hangsOnItself();
        soundBounds();
        soundAtItsEdges();
        due.end();
    }

    /** What is told of a LINE without a HEAD. */
    private static void hasNoHead(int k) {
        due.is("head(" + k + ")", x.head(k), NONE);
        due.is("force(" + k + ")", x.force(k), 0);
        due.is("hangs(" + k + ", 0)", x.hangs(k, 0), NONE);
        due.is("sound(" + k + ")", x.sound(k), NONE);
    }

    private static void emptyProof() {
        start("1 no LINES");
        for (int k = 0; k < 60; k++) {
            hasNoHead(k);
            due.is("take(" + k + ")", x.take(k), 0);
        }
        start("9 of no LINES");
        stops("no LINES", 0, 0);
        due.is("told(2)", x.told(2), 0);
        due.is("told(3)", x.told(3), 0);
        for (int k = 0; k < 60; k++) {
            hasNoHead(k);
        }
    }

    private static void layBounds() {
        some("7 OUTSIDE: k (LINES 0 to 59)");
        for (int k : beyond(59)) {
            due.is("lay(" + k + ")", x.lay(k, GIVEN, 0, 0, 0, A), OUTSIDE);
        }
        for (int k = 0; k < 60; k++) {
            due.is("LINE " + k + " is NOTHING still", x.take(k), 0);
        }
        for (int k = 0; k < 60; k++) {
            due.is("lay(" + k + ")", x.lay(k, GIVEN, 0, 0, 0, A), 1);
        }
    }

    private static void layAnyNumbers() {
        start("7 the numbers may be any");
        int[] any = {LOW, -1, 0, 13, 14, 59, 60, 80, HIGH};
        for (int k = 0; k < any.length; k++) {
            int n = any[k];
            due.is("all " + n, x.lay(k, n, n, n, n, n), 1);
            due.is("all " + n + " again", x.lay(k, n, n, n, n, n), 0);
        }
    }

    private static void laidOnceAndAgain() {
        some("7 LINE k is laid: 1 (0: it was laid; it is this one now)");
        for (int k : new int[] {0, 59}) {
            due.is("once", x.lay(k, GIVEN, 0, 0, 0, A), 1);
            due.is("again", x.lay(k, GIVEN, 0, 0, 0, B), 0);
            due.is("the same", x.lay(k, GIVEN, 0, 0, 0, B), 0);
        }
        stops("one LINE", 0, 1);
        due.is("it is the latter one", x.head(0), B);
        x.lay(0, 14, 0, 0, 0, B);
        stops("another RULE", 8, 0);
        x.lay(0, AGAIN, 60, 0, 0, B);
        stops("another p", 1, 0);
    }

    private static void takeBounds() {
        some("8 OUTSIDE");
        for (int k = 0; k < 60; k++) {
            x.lay(k, GIVEN, 0, 0, 0, A);
        }
        for (int k : beyond(59)) {
            due.is("take(" + k + ")", x.take(k), OUTSIDE);
        }
        stops("all are laid still", 0, 60);
    }

    private static void takenOnceAndAgain() {
        some("8 LINE k is NOTHING: 1, 0 if it was");
        for (int k : new int[] {0, 59}) {
            due.is("that was NOTHING", x.take(k), 0);
            due.is("laid", x.lay(k, GIVEN, 0, 0, 0, A), 1);
            due.is("that was laid", x.take(k), 1);
            due.is("once more", x.take(k), 0);
            due.is("laid again", x.lay(k, GIVEN, 0, 0, 0, A), 1);
            due.is("taken again", x.take(k), 1);
        }
        stops("nothing is left", 0, 0);
    }

    private static void upToTheFirstNothing() {
        some("9 up to the first one that is NOTHING");
        for (int k = 1; k < 60; k++) {
            x.lay(k, GIVEN, 0, 0, 0, A);
        }
        stops("LINE 0 is NOTHING", 0, 0);
        hasNoHead(0);
        hasNoHead(1);
        hasNoHead(59);
        x.lay(0, GIVEN, 0, 0, 0, A);
        x.take(59);
        stops("LINE 59 is NOTHING", 0, 59);
        due.is("head(58)", x.head(58), A);
        hasNoHead(59);
        x.take(1);
        stops("LINE 1 is NOTHING", 0, 1);
        due.is("head(0)", x.head(0), A);
        hasNoHead(1);
        hasNoHead(2);
    }

    private static void upToTheFirstRefused() {
        some("9 up to the first one that is REFUSED");
        int refused = given(SOME);
        by(14, 0);
        given(A);
        by(BOTH, 2, 2);
        stops("LINE 0", 1, refused);
        due.is("none is made behind it", x.formulas(), SOME);
        for (int k = 0; k < 4; k++) {
            hasNoHead(k);
        }
        x.lay(0, GIVEN, 0, 0, 0, A);
        stops("LINE 1", 8, 1);
        due.is("none is made behind it", x.formulas(), SOME);
        x.lay(1, GIVEN, 0, 0, 0, A);
        stops("none", 0, 4);
        due.is("one is made", x.formulas(), SOME + 1);
    }

    private static void checkAgain() {
        some("9 and once more");
        given(A);
        by(BOTH, 0, 0);
        assume(B);
        for (int round = 0; round < 3; round++) {
            stops("round " + round, 0, 3);
            due.is("told(2)", x.told(2), 1);
            due.is("told(3)", x.told(3), round == 0 ? 1 : 0);
            due.is("head(1)", x.head(1), SOME);
        }
        due.is("formulas()", x.formulas(), SOME + 1);
    }

    /** LINES that were a BOX by the former check() are none by the next one. */
    private static void checkForgetsTheFormerOne() {
        some("9 nothing of a former check is left");
        int or = given(x.formula(OR, A, A));
        int box = assume(A);
        int shut = shut();
        int if1 = by(IF, box);
        stops("a BOX", 0, 4);
        x.lay(box, GIVEN, 0, 0, 0, A);
        x.lay(shut, GIVEN, 0, 0, 0, A);
        stops("IF of no BOX", 5, if1);
        due.is("force of what was in it", x.force(box), 1);
        due.is("hangs on what was SHUT", x.hangs(shut, 2), shut);
        x.lay(if1, CASES, or, box, box, 0);
        stops("CASES of no BOX", 5, if1);
        x.lay(if1, SHUT, 0, 0, 0, 0);
        stops("SHUT of no BOX", 5, if1);
        x.lay(box, ASSUME, 0, 0, 0, A);
        x.lay(if1, IF, box, 0, 0, 0);
        stops("IF of a BOX that is open now", 5, if1);
        due.is("told(2)", x.told(2), 1);
        x.lay(shut, SHUT, 0, 0, 0, 0);
        stops("a BOX again", 0, 4);
        due.is("told(2)", x.told(2), 0);
        due.is("force of what is in it", x.force(box), 0);
    }

    private static void formulaMadeBehindLay() {
        start("9 f is none of those that there are, when it is looked at");
        given(0);
        stops("it is not yet", 1, 0);
        x.formula(LETTER, 0, 0);
        stops("it is", 0, 1);
        given(1);
        stops("the next is not", 1, 1);
    }

    private static void formulaMadeByTheCheck() {
        some("9 f is one that the same check makes");
        given(A);
        given(SOME);
        by(BOTH, 0, 0);
        stops("behind", 1, 1);
        x.lay(1, BOTH, 0, 0, 0, 0);
        x.lay(2, GIVEN, 0, 0, 0, SOME);
        stops("ahead", 0, 3);
        due.is("head(2)", x.head(2), SOME);
    }

    private static void sixtyGiven() {
        some("9 a PROOF of all 60 LINES, each GIVEN");
        for (int k = 0; k < 60; k++) {
            given(k % SOME);
        }
        stops("behind the last one", 0, 60);
        due.is("told(2)", x.told(2), 0);
        due.is("told(3)", x.told(3), 0);
        for (int k = 0; k < 60; k++) {
            due.is("head(" + k + ")", x.head(k), k % SOME);
            due.is("force(" + k + ")", x.force(k), 1);
            due.is("hangs(59, " + k + ")", x.hangs(59, k), k);
            due.is("sound(" + k + ")", x.sound(k), 1);
        }
        due.is("hangs(59, 60)", x.hangs(59, 60), NONE);
        due.is("hangs(58, 58)", x.hangs(58, 58), 58);
        due.is("hangs(58, 59)", x.hangs(58, 59), NONE);
    }

    private static void sixtyAssumed() {
        some("9 a PROOF of all 60 LINES, each ASSUME");
        for (int k = 0; k < 60; k++) {
            assume(k % SOME);
        }
        stops("behind the last one", 0, 60);
        due.is("told(2)", x.told(2), 60);
        for (int k = 0; k < 60; k++) {
            due.is("head(" + k + ")", x.head(k), k % SOME);
            due.is("force(" + k + ")", x.force(k), 1);
            due.is("hangs(59, " + k + ")", x.hangs(59, k), k);
            due.is("hangs(" + k + ", " + k + ")", x.hangs(k, k), k);
            due.is("hangs(" + k + ", " + (k + 1) + ")", x.hangs(k, k + 1), NONE);
        }
    }

    private static void thirtyBoxesBesideEachOther() {
        some("Terms: BOXES one behind the other");
        for (int box = 0; box < 30; box++) {
            assume(A);
            shut();
        }
        stops("behind the last one", 0, 60);
        due.is("told(2)", x.told(2), 0);
        for (int k = 0; k < 60; k++) {
            due.is("head(" + k + ")", x.head(k), k % 2 == 0 ? A : NONE);
            due.is("force(" + k + ")", x.force(k), 0);
            due.is("hangs(" + k + ", 0)", x.hangs(k, 0), k % 2 == 0 ? k : NONE);
            due.is("hangs(" + k + ", 1)", x.hangs(k, 1), NONE);
        }
    }

    private static void thirtyBoxesInEachOther() {
        some("Terms: SHUT shuts the innermost that is open");
        for (int k = 0; k < 30; k++) {
            assume(A);
        }
        for (int open = 29; open >= 0; open--) {
            shut();
            stops("so many are shut", 0, 60 - open);
            due.is("told(2)", x.told(2), open);
            due.is("the one that was shut", x.force(open), 0);
            if (open > 0) {
                due.is("the innermost that is open", x.force(open - 1), 1);
            }
        }
    }

    private static void lastLineUsesTheOneAhead() {
        some("9 LINE 59 and the one ahead of it");
        for (int k = 0; k < 58; k++) {
            given(A);
        }
        assume(B);
        x.lay(59, AGAIN, 58, 0, 0, 0);
        stops("AGAIN of LINE 58", 0, 60);
        due.is("head(59)", x.head(59), B);
        x.lay(59, BOTH, 0, 58, 0, 0);
        stops("BOTH of LINES 0 and 58", 0, 60);
        due.is("head(59)", x.head(59), A_AND_B);
        x.lay(59, SHUT, 0, 0, 0, 0);
        stops("SHUT", 0, 60);
        hasNoHead(59);
        due.is("force(58)", x.force(58), 0);
        x.lay(57, ASSUME, 0, 0, 0, A);
        x.lay(58, SHUT, 0, 0, 0, 0);
        x.lay(59, IF, 57, 0, 0, 0);
        stops("IF of the BOX of LINE 57", 0, 60);
        due.is("head(59)", x.head(59), x.formula(IMPLIES, A, A));
        due.is("force(59)", x.force(59), 1);
    }

    private static void lastLineRefused() {
        some("9 LINE 59 is REFUSED");
        for (int k = 0; k < 59; k++) {
            given(A);
        }
        int[][] last = {{AGAIN, 59, 2}, {AGAIN, 60, 1}, {LEFT, 58, 4}, {SHUT, 0, 5}, {14, 0, 8}};
        for (int[] line : last) {
            x.lay(59, line[0], line[1], 0, 0, 0);
            stops("RULE " + line[0] + " of " + line[1], line[2], 59);
            hasNoHead(59);
        }
    }

    private static void boxOfOneLine() {
        some("Terms: its END is the LINE ahead of SHUT, also the ASSUME itself");
        int or = given(x.formula(OR, B, B));
        int box = assume(B);
        shut();
        holds("IF", by(IF, box), x.formula(IMPLIES, B, B));
        holds("CASES", cases(or, box, box), B);
    }

    private static void toldAheadOfAny() {
        start("10 NONE of all ahead of any");
        for (int what = 0; what < 4; what++) {
            due.is("told(" + what + ")", x.told(what), NONE);
        }
        x.formula(FALSE, 0, 0);
        given(0);
        for (int what = 0; what < 4; what++) {
            due.is("told(" + what + ") with a LINE", x.told(what), NONE);
        }
        hasNoHead(0);
    }

    private static void toldBounds() {
        start("10 OUTSIDE");
        for (int what : beyond(3)) {
            due.is("told(" + what + ") ahead of any", x.told(what), OUTSIDE);
        }
        x.check();
        for (int what : beyond(3)) {
            due.is("told(" + what + ")", x.told(what), OUTSIDE);
        }
        for (int what = 0; what < 4; what++) {
            due.is("told(" + what + ")", x.told(what), 0);
        }
    }

    private static void toldOpenBoxes() {
        some("10 BOXES that are open there");
        assume(A);
        assume(B);
        stops("two", 0, 2);
        due.is("told(2)", x.told(2), 2);
        assume(SOME);
        stops("an ASSUME that is REFUSED opens none", 1, 2);
        due.is("told(2)", x.told(2), 2);
        x.lay(2, SHUT, 0, 0, 0, 0);
        x.lay(3, 14, 0, 0, 0, 0);
        stops("a SHUT ahead of one that is REFUSED", 8, 3);
        due.is("told(2)", x.told(2), 1);
        x.lay(3, SHUT, 0, 0, 0, 0);
        x.lay(4, SHUT, 0, 0, 0, 0);
        stops("a SHUT that is REFUSED", 5, 4);
        due.is("told(2)", x.told(2), 0);
        x.take(0);
        stops("no LINES", 0, 0);
        due.is("told(2)", x.told(2), 0);
    }

    private static void toldNewFormulas() {
        some("10 FORMULAS that it made new");
        given(A);
        given(B);
        by(BOTH, 0, 1);
        withFormula(ONE, 0, B);
        stops("none: both were there", 0, 4);
        due.is("told(3)", x.told(3), 0);
        by(BOTH, 0, 0);
        by(BOTH, 0, 0);
        withFormula(OTHER, 0, F);
        by(LEFT, 0);
        stops("two, and one that is REFUSED", 4, 7);
        due.is("told(3)", x.told(3), 2);
        due.is("formulas()", x.formulas(), SOME + 2);
        x.formula(LETTER, 5, 0);
        x.instead(A_AND_B, 0, NOT_A);
        due.is("others make no change of it", x.told(3), 2);
        x.check();
        due.is("none the next time", x.told(3), 0);
    }

    private static void headBounds() {
        some("11 OUTSIDE");
        for (int k = 0; k < 60; k++) {
            given(A);
        }
        for (int round = 0; round < 2; round++) {
            for (int k : beyond(59)) {
                due.is("head(" + k + ")", x.head(k), OUTSIDE);
            }
            due.is("head(0)", x.head(0), round == 0 ? NONE : A);
            due.is("head(59)", x.head(59), round == 0 ? NONE : A);
            x.check();
        }
    }

    private static void headOfNone() {
        some("11 NONE: it is SHUT, was not come to, or was REFUSED");
        given(A);
        assume(B);
        shut();
        by(LEFT, 0);
        given(A);
        due.is("ahead of any check", x.head(0), NONE);
        stops("LEFT", 4, 3);
        due.is("that is GIVEN", x.head(0), A);
        due.is("of a shut BOX", x.head(1), B);
        due.is("that is SHUT", x.head(2), NONE);
        due.is("that was REFUSED", x.head(3), NONE);
        due.is("that was not come to", x.head(4), NONE);
        due.is("that is NOTHING", x.head(5), NONE);
        x.lay(3, AGAIN, 0, 0, 0, 0);
        due.is("laid anew, but not looked at", x.head(3), NONE);
        stops("all", 0, 5);
        due.is("looked at", x.head(3), A);
        x.lay(0, GIVEN, 0, 0, 0, SOME);
        stops("none", 1, 0);
        for (int k = 0; k < 5; k++) {
            due.is("the former check is forgotten", x.head(k), NONE);
        }
    }

    private static void forceBounds() {
        some("12 OUTSIDE");
        for (int k = 0; k < 60; k++) {
            given(A);
        }
        for (int round = 0; round < 2; round++) {
            for (int k : beyond(59)) {
                due.is("force(" + k + ")", x.force(k), OUTSIDE);
            }
            due.is("force(0)", x.force(0), round);
            due.is("force(59)", x.force(59), round);
            x.check();
        }
    }

    private static void forceIs(String what, int... want) {
        for (int k = 0; k < want.length; k++) {
            due.is(what + ": force(" + k + ")", x.force(k), want[k]);
        }
    }

    private static void forceWhereItStopped() {
        some("12 IN FORCE where the latest check() stopped");
        given(A);
        assume(A);
        assume(B);
        by(AGAIN, 0);
        x.check();
        forceIs("two BOXES are open", 1, 1, 1, 1, 0);
        shut();
        x.check();
        forceIs("the inner one is shut", 1, 1, 0, 0, 0, 0);
        by(AGAIN, 1);
        x.check();
        forceIs("a LINE behind it", 1, 1, 0, 0, 0, 1, 0);
        shut();
        x.check();
        forceIs("both are shut", 1, 0, 0, 0, 0, 0, 0, 0);
        x.lay(4, LEFT, 0, 0, 0, 0);
        x.check();
        forceIs("it stops ahead of both SHUTS", 1, 1, 1, 1, 0, 0, 0);
        x.take(0);
        forceIs("no check since", 1, 1, 1, 1, 0, 0, 0);
        x.check();
        forceIs("no LINES", 0, 0, 0, 0, 0, 0, 0);
    }

    private static void shutIsNeverInForce() {
        some("Terms: SHUT is never IN FORCE");
        given(A);
        assume(A);
        assume(B);
        int inner = shut();
        by(AGAIN, inner);
        refused("AGAIN of a SHUT in an open BOX", 3);
        due.is("force of it", x.force(inner), 0);
        int outer = shut();
        by(AGAIN, outer);
        refused("AGAIN of a SHUT in no BOX", 3);
        due.is("force of it", x.force(outer), 0);
    }

    private static void hangsBounds() {
        some("13 OUTSIDE: k");
        for (int k = 0; k < 60; k++) {
            given(A);
        }
        for (int round = 0; round < 2; round++) {
            for (int k : beyond(59)) {
                due.is("hangs(" + k + ", 0)", x.hangs(k, 0), OUTSIDE);
                due.is("hangs(" + k + ", -1)", x.hangs(k, -1), OUTSIDE);
            }
            due.is("hangs(0, 0)", x.hangs(0, 0), round == 0 ? NONE : 0);
            due.is("hangs(59, 59)", x.hangs(59, 59), round == 0 ? NONE : 59);
            x.check();
        }
    }

    private static void hangsByIndex() {
        some("13 the i-th LINE, in order; NONE: none such");
        given(A);
        assume(B);
        given(F);
        by(AGAIN, 0);
        due.is("ahead of any check", x.hangs(3, 0), NONE);
        x.check();
        for (int i : beyond(2)) {
            due.is("i " + i, x.hangs(3, i), NONE);
        }
        hangsOn(3, 0, 1, 2);
        hangsOn(2, 0, 1, 2);
        hangsOn(1, 0, 1);
        hangsOn(0, 0);
    }

    private static void hangsOfNoHead() {
        some("13 what the HEAD hangs on: without one nothing");
        given(A);
        assume(B);
        assume(B);
        shut();
        by(LEFT, 0);
        given(B);
        stops("LEFT", 4, 4);
        hangsOn(3);
        hangsOn(4);
        hangsOn(5);
        hangsOn(59);
    }

    private static void hangsOnItself() {
        some("13 GIVEN, ahead of k or k itself, or the ASSUME of a BOX that k lies in");
        int first = assume(A);
        int second = assume(B);
        int given = given(F);
        shut();
        int behind = assume(B);
        shut();
        int last = by(AGAIN, first);
        int later = given(B);
        x.check();
        hangsOn(first, first);
        hangsOn(second, first, second);
        hangsOn(given, first, second, given);
        hangsOn(behind, first, given, behind);
        hangsOn(last, first, given);
        hangsOn(later, first, given, later);
    }

    private static void soundBounds() {
        some("14 OUTSIDE; NONE: it has no HEAD");
        for (int k = 0; k < 60; k++) {
            given(A);
        }
        for (int round = 0; round < 2; round++) {
            for (int k : beyond(59)) {
                due.is("sound(" + k + ")", x.sound(k), OUTSIDE);
            }
            due.is("sound(0)", x.sound(0), round == 0 ? NONE : 1);
            due.is("sound(59)", x.sound(59), round == 0 ? NONE : 1);
            x.check();
        }
    }

    private static void soundAtItsEdges() {
        some("14 true by each VALUATION by which all that it hangs on is");
        int box = assume(B);
        shut();
        int always = by(IF, box);
        int never = assume(F);
        int any = withFormula(ANY, never, A);
        int no = shut();
        int if1 = by(IF, never);
        int left = by(LEFT, always);
        stops("LEFT", 4, left);
        due.is("hangs on itself", x.sound(box), 1);
        due.is("hangs on nothing, true by all", x.sound(always), 1);
        due.is("hangs on FALSE alone, true by none", x.sound(never), 1);
        due.is("hangs on FALSE, true by some", x.sound(any), 1);
        due.is("hangs on nothing", x.sound(if1), 1);
        due.is("that is SHUT", x.sound(no), NONE);
        due.is("that was REFUSED", x.sound(left), NONE);
        due.is("that is NOTHING", x.sound(left + 1), NONE);
    }
}
