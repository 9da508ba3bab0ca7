import java.util.ArrayList;
import java.util.List;

/**
 * "Refused calls answer, the first that fits, UNKNOWN, OUTSIDE, FULL; they change nothing": two
 * objects are made alike, one of them refuses a call, and both must answer all else alike.
 */
public final class RefusedCallsTest extends Bench {
    private interface Call {
        int of(Counted x);
    }

    private interface State {
        void make();
    }

    private interface Probe {
        void ask(Counted x, List<Integer> answers);
    }

    // several, as an object may not be asked for all of its state within 512 calls
    private static final List<Probe> PROBES = List.of(
        RefusedCallsTest::forms, RefusedCallsTest::heightsAndTruths, RefusedCallsTest::findings,
        RefusedCallsTest::linesByCheck, RefusedCallsTest::linesByTake, RefusedCallsTest::nextFormulas);

    private static final State NEW = () -> start("refused by a new object");
    private static final State IN_USE = RefusedCallsTest::inUse;
    private static final State BOTH_FULL = RefusedCallsTest::bothFull;

    public static void main(String[] args) {
        refusedByNew();
        for (State state : List.of(NEW, IN_USE, BOTH_FULL)) {
            refusedLines(state);
            refusedWhats(state);
            refusedFormulas(state);
        }
        refusedFirstOfTwo();
        refusedFull();
        insteadKeepsWhatIsNew();
        due.end();
    }

    /** Some FORMULAS, a PROOF that was looked at, and LINES laid anew and taken behind that. */
    private static void inUse() {
        some("refused by one in use");
        proof(A, B, A_AND_B);
        x.lay(0, GIVEN, 0, 0, 0, B);
        x.lay(59, GIVEN, 0, 0, 0, A);
        x.take(8);
    }

    /** 80 FORMULAS, up to HEIGHT 12, and a PROOF that was looked at. */
    private static void bothFull() {
        tower("refused by one with 80 FORMULAS");
        fill();
        proof(0, 0, 1);
        x.lay(0, GIVEN, 0, 0, 0, 10);
        x.lay(59, GIVEN, 0, 0, 0, 79);
        x.take(8);
    }

    private static void proof(int a, int b, int both) {
        given(a);
        given(b);
        by(BOTH, 0, 1);
        int outer = assume(both);
        assume(a);
        by(LEFT, 2);
        shut();
        by(AGAIN, outer);
        by(AGAIN, 0);
        due.is("the PROOF", x.check(), next);
        due.is("told(2)", x.told(2), 1);
    }

    private static void forms(Counted x, List<Integer> answers) {
        answers.add(x.formulas());
        for (int f = 0; f < 80; f++) {
            for (int what = 0; what < 3; what++) {
                answers.add(x.about(f, what));
            }
        }
    }

    private static void heightsAndTruths(Counted x, List<Integer> answers) {
        for (int f = 0; f < 80; f++) {
            answers.add(x.about(f, 3));
            answers.add(x.truths(f));
            answers.add(x.value(f, 1));
        }
    }

    private static void findings(Counted x, List<Integer> answers) {
        for (int what = 0; what < 4; what++) {
            answers.add(x.told(what));
        }
        for (int k = 0; k < 60; k++) {
            answers.add(x.head(k));
            answers.add(x.force(k));
            answers.add(x.hangs(k, 1));
            answers.add(x.sound(k));
        }
    }

    private static void linesByCheck(Counted x, List<Integer> answers) {
        answers.add(x.check());
        findings(x, answers);
    }

    private static void linesByTake(Counted x, List<Integer> answers) {
        for (int k = 0; k < 60; k++) {
            answers.add(x.take(k));
        }
    }

    private static void nextFormulas(Counted x, List<Integer> answers) {
        answers.add(x.formula(LETTER, 5, 0));
        answers.add(x.formula(FALSE, 0, 0));
        answers.add(x.instead(3, 0, 2));
    }

    private static void refuses(State state, String call, int want, Call refused) {
        for (Probe probe : PROBES) {
            List<Integer> without = new ArrayList<>();
            List<Integer> with = new ArrayList<>();
            state.make();
            probe.ask(x, without);
            state.make();
            due.is(call, refused.of(x), want);
            probe.ask(x, with);
            due.is(call + " changes nothing", with.equals(without) ? 1 : 0, 1);
        }
    }

    private static void refusedByNew() {
        for (int f : new int[] {LOW, -1, 0, 79, HIGH}) {
            refuses(NEW, "formula(AND, " + f + ")", UNKNOWN, x -> x.formula(AND, f, f));
            refuses(NEW, "formula(IMPLIES, " + f + ")", UNKNOWN, x -> x.formula(IMPLIES, f, f));
            refuses(NEW, "instead(" + f + ")", UNKNOWN, x -> x.instead(f, 0, f));
            refuses(NEW, "about(" + f + ")", UNKNOWN, x -> x.about(f, 0));
            refuses(NEW, "value(" + f + ")", UNKNOWN, x -> x.value(f, 0));
            refuses(NEW, "truths(" + f + ")", UNKNOWN, x -> x.truths(f));
        }
    }

    private static void refusedLines(State state) {
        for (int k : new int[] {LOW, -60, -1, 60, 119, HIGH}) {
            refuses(state, "lay(" + k + ")", OUTSIDE, x -> x.lay(k, ASSUME, 0, 0, 0, 1));
            refuses(state, "lay(" + k + ") of any", OUTSIDE, x -> x.lay(k, HIGH, LOW, HIGH, LOW, HIGH));
            refuses(state, "take(" + k + ")", OUTSIDE, x -> x.take(k));
            refuses(state, "head(" + k + ")", OUTSIDE, x -> x.head(k));
            refuses(state, "force(" + k + ")", OUTSIDE, x -> x.force(k));
            refuses(state, "hangs(" + k + ", 0)", OUTSIDE, x -> x.hangs(k, 0));
            refuses(state, "sound(" + k + ")", OUTSIDE, x -> x.sound(k));
        }
    }

    private static void refusedWhats(State state) {
        for (int what : new int[] {LOW, -1, 5, HIGH}) {
            refuses(state, "told(" + what + ")", OUTSIDE, x -> x.told(what));
            refuses(state, "formula(" + what + ", 0, 0)", OUTSIDE, x -> x.formula(what, 0, 0));
        }
        refuses(state, "told(4)", OUTSIDE, x -> x.told(4));
        for (int n : new int[] {LOW, -1, 6, HIGH}) {
            refuses(state, "formula(LETTER, " + n + ")", OUTSIDE, x -> x.formula(LETTER, n, 0));
        }
    }

    private static void refusedFormulas(State state) {
        for (int f : new int[] {LOW, -1, 80, HIGH}) {
            for (int kind = AND; kind <= IMPLIES; kind++) {
                int of = kind;
                refuses(state, "formula(" + kind + ", " + f + ", 0)", UNKNOWN, x -> x.formula(of, f, 0));
                refuses(state, "formula(" + kind + ", 0, " + f + ")", UNKNOWN, x -> x.formula(of, 0, f));
            }
            refuses(state, "about(" + f + ", 0)", UNKNOWN, x -> x.about(f, 0));
            refuses(state, "value(" + f + ", 0)", UNKNOWN, x -> x.value(f, 0));
            refuses(state, "truths(" + f + ")", UNKNOWN, x -> x.truths(f));
            refuses(state, "instead(" + f + ", 0, 0)", UNKNOWN, x -> x.instead(f, 0, 0));
            refuses(state, "instead(0, 0, " + f + ")", UNKNOWN, x -> x.instead(0, 0, f));
        }
    }

    private static void refusedFirstOfTwo() {
        for (State state : List.of(IN_USE, BOTH_FULL)) {
            for (int far : new int[] {LOW, -1, 80, HIGH}) {
                refuses(state, "about(" + far + ", 4)", UNKNOWN, x -> x.about(far, 4));
                refuses(state, "about(0, " + far + ")", OUTSIDE, x -> x.about(0, far));
                refuses(state, "value(" + far + ", 64)", UNKNOWN, x -> x.value(far, 64));
                refuses(state, "value(0, " + far + ")", OUTSIDE, x -> x.value(0, far));
                refuses(state, "instead(" + far + ", 6, 0)", UNKNOWN, x -> x.instead(far, 6, 0));
                refuses(state, "instead(0, -1, " + far + ")", UNKNOWN, x -> x.instead(0, -1, far));
                refuses(state, "instead(1, " + far + ", 2)", OUTSIDE, x -> x.instead(1, far, 2));
            }
        }
    }

    private static void refusedFull() {
        refuses(BOTH_FULL, "the 81st, FALSE", FULL, x -> x.formula(FALSE, 0, 0));
        refuses(BOTH_FULL, "the 81st, a LETTER", FULL, x -> x.formula(LETTER, 5, 0));
        for (int kind = AND; kind <= IMPLIES; kind++) {
            int of = kind;
            refuses(BOTH_FULL, "the 81st, kind " + kind, FULL, x -> x.formula(of, 79, 0));
            refuses(BOTH_FULL, "HEIGHT 13, kind " + kind, FULL, x -> x.formula(of, 0, 11));
            refuses(() -> tower("HEIGHT alone"), "HEIGHT 13, kind " + kind, FULL, x -> x.formula(of, 11, 0));
        }
        refuses(BOTH_FULL, "instead, the 81st", FULL, x -> x.instead(1, 0, 79));
        refuses(BOTH_FULL, "instead, HEIGHT 13", FULL, x -> x.instead(11, 0, 1));
        refuses(() -> tower("HEIGHT alone"), "instead, HEIGHT 13 at once", FULL, x -> x.instead(1, 0, 11));
    }

    /** FULL of instead(): what is new by then stays, and that is all that is changed. */
    private static void insteadKeepsWhatIsNew() {
        State state = () -> {
            tower("6 FULL (what is new by then stays)");
            proof(0, 0, 1);
        };
        for (Probe probe : List.<Probe>of(RefusedCallsTest::findings, RefusedCallsTest::linesByTake)) {
            List<Integer> without = new ArrayList<>();
            List<Integer> with = new ArrayList<>();
            state.make();
            x.formula(LETTER, 1, 0);
            x.formula(OR, 12, 12);
            probe.ask(x, without);
            state.make();
            x.formula(LETTER, 1, 0);
            x.formula(OR, 12, 12);
            due.is("instead", x.instead(11, 0, 13), FULL);
            due.is("ten are new", x.formulas(), 24);
            for (int f = 0; f < 14; f++) {
                due.is("FORMULA " + f + " is as it was", x.about(f, 3), f < 12 ? f + 1 : f - 11);
            }
            probe.ask(x, with);
            due.is("LINES and findings stay", with.equals(without) ? 1 : 0, 1);
        }
    }
}
