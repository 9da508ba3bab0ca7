/** "An object is used for at most 512 calls": the 512th answers as due, whichever it is. */
public final class LongUseTest extends Bench {
    private interface Call {
        int of(Counted x);
    }

    public static void main(String[] args) {
        lastCall("formula", 79, x -> x.formula(IMPLIES, 0, 1));
        lastCall("formula, one that there is", 11, x -> x.formula(AND, 10, 10));
        lastCall("about", 12, x -> x.about(11, 3));
        lastCall("value", 1, x -> x.value(11, 63));
        lastCall("truths", 32, x -> x.truths(11));
        lastCall("instead", 11, x -> x.instead(10, 0, 1));
        lastCall("lay", 0, x -> x.lay(59, GIVEN, 0, 0, 0, 0));
        lastCall("take", 1, x -> x.take(59));
        lastCall("check", 60, x -> x.check());
        lastCall("told", 60, x -> x.told(1));
        lastCall("head", 0, x -> x.head(59));
        lastCall("force", 1, x -> x.force(59));
        lastCall("hangs", 59, x -> x.hangs(59, 59));
        lastCall("sound", 1, x -> x.sound(59));
        lastCall("formulas", 79, x -> x.formulas());
        due.end();
    }

    /** 79 FORMULAS and a PROOF of 60 LINES, which is looked at again and again up to the 512th call. */
    private static void lastCall(String name, int want, Call call) {
        tower("the 512th call");
        fillTo(79);
        for (int k = 0; k < 60; k++) {
            assume(0);
        }
        while (x.left() > 1) {
            due.is("check()", x.check(), 60);
        }
        due.is(name, call.of(x), want);
        due.is("calls left", x.left(), 0);
    }
}
