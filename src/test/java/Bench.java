/** The document's words, an object to be asked, and hands to lay PROOFS with: what the tests share. */
abstract class Bench {
    static final int NONE = BoxProofs.NONE, UNKNOWN = BoxProofs.UNKNOWN;
    static final int OUTSIDE = BoxProofs.OUTSIDE, FULL = BoxProofs.FULL;
    static final int LOW = Integer.MIN_VALUE, HIGH = Integer.MAX_VALUE;

    static final int FALSE = 0, LETTER = 1, AND = 2, OR = 3, IMPLIES = 4;
    static final int GIVEN = 0, ASSUME = 1, SHUT = 2, AGAIN = 3, BOTH = 4, LEFT = 5, RIGHT = 6;
    static final int ONE = 7, OTHER = 8, CASES = 9, IF = 10, THEN = 11, ANY = 12, SO = 13;

    // the FORMULAS that some() makes: F, A, B, A and B, A or B, A implies B, not A, not not A
    static final int F = 0, A = 1, B = 2, A_AND_B = 3, A_OR_B = 4, A_IMP_B = 5, NOT_A = 6, NOT_NOT_A = 7;
    static final int SOME = 8;

    static final Due due = new Due();
    static Counted x;
    static int next;

    /**
     * Numbers that are none of 0 to high: the nearest and the farthest on both sides, and such as
     * would be one of them if they wrapped around somewhere (a shift, a byte, a row of 60 or 80).
     */
    static int[] beyond(int high) {
        return new int[] {
            LOW, LOW + 1, -65536, -256, -128, -80, -64, -60, -32, -4, -3, -2, -1,
            high + 1, high + 2, high + 32, high + 60, high + 64, high + 80, high + 256, high + 65536, HIGH - 1, HIGH
        };
    }

    static void start(String part) {
        due.part(part);
        x = new Counted();
        next = 0;
    }

    static void some(String part) {
        start(part);
        x.formula(FALSE, 0, 0);
        x.formula(LETTER, 0, 0);
        x.formula(LETTER, 1, 0);
        x.formula(AND, A, B);
        x.formula(OR, A, B);
        x.formula(IMPLIES, A, B);
        x.formula(IMPLIES, A, F);
        x.formula(IMPLIES, NOT_A, F);
        due.is("some formulas", x.formulas(), SOME);
    }

    /** Lays the next LINE, with numbers that no RULE may look at in the places it does not take. */
    static int line(int rule, int p, int q, int r, int f) {
        x.lay(next, rule, p, q, r, f);
        return next++;
    }

    static int given(int f) {
        return line(GIVEN, LOW, HIGH, -1, f);
    }

    static int assume(int f) {
        return line(ASSUME, 60, HIGH, -1, f);
    }

    static int shut() {
        return line(SHUT, -1, LOW, 60, 99);
    }

    static int by(int rule, int p) {
        return line(rule, p, -1, 60, 99);
    }

    static int by(int rule, int p, int q) {
        return line(rule, p, q, LOW, -1);
    }

    static int withFormula(int rule, int p, int f) {
        return line(rule, p, 60, -7, f);
    }

    static int cases(int p, int q, int r) {
        return line(CASES, p, q, r, 99);
    }

    /** A new check: it stops at the LINE by the REASON. */
    static void stops(String what, int reason, int line) {
        due.is(what + ": check()", x.check(), line);
        due.is(what + ": told(0)", x.told(0), reason);
        due.is(what + ": told(1)", x.told(1), line);
    }

    /** Every LINE laid so far follows, and LINE k holds f. */
    static void holds(String what, int k, int f) {
        stops(what, 0, next);
        due.is(what + ": head(" + k + ")", x.head(k), f);
    }

    /** The LINE laid last is refused; it is laid anew by the next one. */
    static void refused(String what, int reason) {
        next--;
        stops(what, reason, next);
        due.is(what + ": head", x.head(next), NONE);
        due.is(what + ": force", x.force(next), 0);
        x.take(next);
    }

    /** FORMULA 0 is a LETTER, each n of 1 to 11 is n - 1 AND n - 1: its HEIGHT is n + 1. */
    static void tower(String part) {
        start(part);
        x.formula(LETTER, 0, 0);
        for (int f = 0; f < 11; f++) {
            due.is("tower", x.formula(AND, f, f), f + 1);
        }
    }

    static void fill() {
        fillTo(80);
    }

    /** Makes FORMULAS a OR b on a tower, until there are so many. */
    static void fillTo(int count) {
        boolean isThere = x.formulas() >= count;
        for (int pair = 0; pair < 100 && !isThere; pair++) {
            isThere = x.formula(OR, pair / 10, pair % 10) == count - 1;
        }
        due.is("filled", x.formulas(), count);
    }

    static void hangsOn(int k, int... grounds) {
        for (int i = 0; i < grounds.length; i++) {
            due.is("hangs(" + k + ", " + i + ")", x.hangs(k, i), grounds[i]);
        }
        due.is("hangs(" + k + ", " + grounds.length + ")", x.hangs(k, grounds.length), NONE);
    }
}
