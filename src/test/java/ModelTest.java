import java.util.Random;

/** Random runs of calls, by fixed seeds: the class and the plain model answer alike. */
public final class ModelTest {
    private static final int RUNS = 1500, CALLS = 512;
    private static final int[] EDGES = {-1, 60, 59, 80, 79, 99, Integer.MIN_VALUE, Integer.MAX_VALUE};

    private final Due due;
    private final Random random;
    private final BoxProofs x = new BoxProofs();
    private final PlainModel model = new PlainModel();
    private final boolean rich;
    private int calls = 0;

    private ModelTest(Due due, int seed) {
        this.due = due;
        this.random = new Random(seed);
        this.rich = seed % 3 == 0;
        due.part("seed " + seed);
    }

    public static void main(String[] args) {
        Due due = new Due();
        int[] reasons = new int[9];
        for (int seed = 0; seed < RUNS && !due.hasWrong(); seed++) {
            new ModelTest(due, seed).run(reasons);
        }
        due.part("the runs reach every reason");
        for (int reason = 0; reason < reasons.length; reason++) {
            due.is("reason " + reason, reasons[reason] > 0 ? 1 : 0, 1);
        }
        due.end();
    }

    private void run(int[] reasons) {
        while (calls < CALLS && !due.hasWrong()) {
            switch (random.nextInt(8)) {
                case 0, 1 -> makeFormulas(rich ? 12 : 2);
                case 2 -> askFormula();
                case 3, 4, 5 -> extendProof();
                case 6 -> disturbProof();
                default -> askProof();
            }
            if (random.nextInt(3) == 0) {
                same("check()", x.check(), model.check());
                for (int what = 0; what < 4; what++) {
                    same("told(" + what + ")", x.told(what), model.told(what));
                }
                reasons[model.told(0)]++;
            }
        }
    }

    private void same(String call, int got, int want) {
        if (calls < CALLS) {
            due.is("call " + calls + ", " + call, got, want);
        }
        calls++;
    }

    private int below(int bound) {
        return bound > 0 && random.nextInt(25) != 0 ? random.nextInt(bound) : EDGES[random.nextInt(EDGES.length)];
    }

    private int someFormula() {
        return below(model.formulas());
    }

    private int lateFormula() {
        int n = model.formulas();
        return n > 6 && random.nextInt(3) != 0 ? n - 1 - random.nextInt(6) : someFormula();
    }

    private int laidLines() {
        return Math.max(0, model.told(1));
    }

    private void makeFormulas(int count) {
        for (int i = 0; i < count; i++) {
            if (random.nextInt(6) == 0) {
                int f = lateFormula();
                int n = below(3);
                int by = rich ? lateFormula() : below(Math.min(4, model.formulas()));
                same("instead(" + f + ", " + n + ", " + by + ")", x.instead(f, n, by), model.instead(f, n, by));
            } else {
                int kind = model.formulas() < 4 ? random.nextInt(2) : below(5);
                int a = kind == 1 ? below(3) : lateFormula();
                int b = random.nextInt(3) == 0 ? 0 : someFormula();
                same("formula(" + kind + ", " + a + ", " + b + ")", x.formula(kind, a, b), model.formula(kind, a, b));
            }
            same("formulas()", x.formulas(), model.formulas());
        }
    }

    private void askFormula() {
        int f = someFormula();
        int what = below(4);
        int v = below(64);
        same("about(" + f + ", " + what + ")", x.about(f, what), model.about(f, what));
        same("value(" + f + ", " + v + ")", x.value(f, v), model.value(f, v));
        same("truths(" + f + ")", x.truths(f), model.truths(f));
    }

    /** Lays a LINE where the PROOF ends: for the most part one that follows, found by trying. */
    private void extendProof() {
        int k = model.copy().check();
        int[] laid = someLine(k);
        for (int tries = 0; tries < 60 && k < 60; tries++) {
            PlainModel trial = model.copy();
            trial.lay(k, laid[0], laid[1], laid[2], laid[3], laid[4]);
            if (trial.check() > k || random.nextInt(80) == 0) {
                break;
            }
            laid = someLine(k);
        }
        lay(k, laid);
    }

    private int[] someLine(int k) {
        int rule = random.nextInt(40) == 0 ? below(14) : random.nextInt(14);
        return new int[] {rule, below(k), below(k), below(k), someFormula()};
    }

    private void lay(int k, int[] laid) {
        same("lay(" + k + ", " + laid[0] + ", " + laid[1] + ", " + laid[2] + ", " + laid[3] + ", " + laid[4] + ")",
            x.lay(k, laid[0], laid[1], laid[2], laid[3], laid[4]),
            model.lay(k, laid[0], laid[1], laid[2], laid[3], laid[4]));
    }

    private void disturbProof() {
        if (random.nextInt(6) == 0) {
            int k = below(60);
            same("take(" + k + ")", x.take(k), model.take(k));
        } else {
            int k = laidLines() + random.nextInt(2);
            lay(random.nextInt(4) == 0 ? below(60) : k, someLine(k));
        }
    }

    private void askProof() {
        int k = below(Math.min(60, laidLines() + 1));
        int i = random.nextInt(8) - 1;
        int what = below(4);
        same("head(" + k + ")", x.head(k), model.head(k));
        same("force(" + k + ")", x.force(k), model.force(k));
        same("hangs(" + k + ", " + i + ")", x.hangs(k, i), model.hangs(k, i));
        same("sound(" + k + ")", x.sound(k), model.sound(k));
        same("told(" + what + ")", x.told(what), model.told(what));
    }
}
