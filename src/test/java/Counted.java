/** A BoxProofs whose calls are counted: no test may lean on what a call behind the 512th answers. */
final class Counted {
    static final int MOST_CALLS = 512;

    private final BoxProofs x = new BoxProofs();
    private int calls = 0;

    private BoxProofs next() {
        if (calls == MOST_CALLS) {
            throw new IllegalStateException("a test makes more than 512 calls of one object");
        }
        calls++;
        return x;
    }

    int left() {
        return MOST_CALLS - calls;
    }

    int formula(int kind, int a, int b) {
        return next().formula(kind, a, b);
    }

    int about(int f, int what) {
        return next().about(f, what);
    }

    int value(int f, int valuation) {
        return next().value(f, valuation);
    }

    int truths(int f) {
        return next().truths(f);
    }

    int instead(int f, int n, int by) {
        return next().instead(f, n, by);
    }

    int lay(int k, int rule, int p, int q, int r, int f) {
        return next().lay(k, rule, p, q, r, f);
    }

    int take(int k) {
        return next().take(k);
    }

    int check() {
        return next().check();
    }

    int told(int what) {
        return next().told(what);
    }

    int head(int k) {
        return next().head(k);
    }

    int force(int k) {
        return next().force(k);
    }

    int hangs(int k, int i) {
        return next().hangs(k, i);
    }

    int sound(int k) {
        return next().sound(k);
    }

    int formulas() {
        return next().formulas();
    }
}
