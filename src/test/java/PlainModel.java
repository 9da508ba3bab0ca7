import java.util.ArrayList;
import java.util.List;

/**
 * The document once more, in the plainest way and with the Java library: FORMULAS are texts, BOXES
 * are a list that each LINE carries. The random runs compare the class with it.
 */
final class PlainModel {
    private static final int NONE = -1, UNKNOWN = -2, OUTSIDE = -3, FULL = -4;
    private static final String SIGNS = "&|>";

    /** A FORMULA: its text is its whole form, so that LIKE is the same text. */
    private record Form(int kind, int a, int b, int height, String text) { }

    private record Laid(int rule, int p, int q, int r, int f) { }

    /** A BOX: the LINE that opens it, and its END, NONE while it is open. */
    private static final class Box {
        final int start;
        int end = NONE;

        Box(int start) {
            this.start = start;
        }
    }

    /** A LINE that was looked at and not refused, with the BOXES that it lies in, outermost first. */
    private record Seen(int rule, int head, List<Box> boxes) {
        boolean inForce() {
            return head != NONE && boxes.stream().allMatch(box -> box.end == NONE);
        }
    }

    private static final class Refused extends Exception {
        private static final long serialVersionUID = 1L;
        final int reason;

        Refused(int reason) {
            this.reason = reason;
        }
    }

    private final List<Form> forms = new ArrayList<>();
    private final Laid[] laid = new Laid[60];
    private List<Seen> seen = new ArrayList<>();
    private List<Box> open = new ArrayList<>();
    private final int[] told = {NONE, NONE, NONE, NONE};

    private boolean known(int f) {
        return f >= 0 && f < forms.size();
    }

    private static boolean line(int k) {
        return k >= 0 && k < 60;
    }

    int formulas() {
        return forms.size();
    }

    int formula(int kind, int a, int b) {
        if (kind >= 2 && kind <= 4 && (!known(a) || !known(b))) {
            return UNKNOWN;
        }
        if (kind < 0 || kind > 4 || kind == 1 && (a < 0 || a > 5)) {
            return OUTSIDE;
        }
        String text = kind == 0 ? "F" : kind == 1 ? "" + (char) ('a' + a)
            : "(" + forms.get(a).text() + SIGNS.charAt(kind - 2) + forms.get(b).text() + ")";
        for (int f = 0; f < forms.size(); f++) {
            if (forms.get(f).text().equals(text)) {
                return f;
            }
        }
        int height = kind < 2 ? 1 : 1 + Math.max(forms.get(a).height(), forms.get(b).height());
        if (height > 12 || forms.size() == 80) {
            return FULL;
        }
        forms.add(new Form(kind, kind == 0 ? NONE : a, kind < 2 ? NONE : b, height, text));
        return forms.size() - 1;
    }

    int about(int f, int what) {
        if (!known(f)) {
            return UNKNOWN;
        }
        Form form = forms.get(f);
        return switch (what) {
            case 0 -> form.kind();
            case 1 -> form.a();
            case 2 -> form.b();
            case 3 -> form.height();
            default -> OUTSIDE;
        };
    }

    int value(int f, int valuation) {
        return !known(f) ? UNKNOWN : valuation < 0 || valuation > 63 ? OUTSIDE : values(valuation)[f] ? 1 : 0;
    }

    /** The VALUES of all FORMULAS: parts have lesser numbers, so they are there in time. */
    private boolean[] values(int valuation) {
        boolean[] is = new boolean[forms.size()];
        for (int f = 0; f < is.length; f++) {
            Form form = forms.get(f);
            is[f] = switch (form.kind()) {
                case 0 -> false;
                case 1 -> (valuation / (int) Math.pow(2, form.a())) % 2 == 1;
                case 2 -> is[form.a()] && is[form.b()];
                case 3 -> is[form.a()] || is[form.b()];
                default -> !is[form.a()] || is[form.b()];
            };
        }
        return is;
    }

    int truths(int f) {
        if (!known(f)) {
            return UNKNOWN;
        }
        int count = 0;
        for (int v = 0; v < 64; v++) {
            count += value(f, v);
        }
        return count;
    }

    int instead(int f, int n, int by) {
        if (!known(f) || !known(by)) {
            return UNKNOWN;
        }
        if (n < 0 || n > 5) {
            return OUTSIDE;
        }
        Form form = forms.get(f);
        if (form.kind() < 2) {
            return form.kind() == 1 && form.a() == n ? by : f;
        }
        int a = instead(form.a(), n, by);
        if (a == FULL) {
            return FULL;
        }
        int b = instead(form.b(), n, by);
        return b == FULL ? FULL : formula(form.kind(), a, b);
    }

    int lay(int k, int rule, int p, int q, int r, int f) {
        if (!line(k)) {
            return OUTSIDE;
        }
        int answer = laid[k] == null ? 1 : 0;
        laid[k] = new Laid(rule, p, q, r, f);
        return answer;
    }

    int take(int k) {
        if (!line(k)) {
            return OUTSIDE;
        }
        int answer = laid[k] == null ? 0 : 1;
        laid[k] = null;
        return answer;
    }

    int check() {
        int before = forms.size();
        seen = new ArrayList<>();
        open = new ArrayList<>();
        told[0] = 0;
        try {
            while (seen.size() < 60 && laid[seen.size()] != null) {
                look(laid[seen.size()]);
            }
        } catch (Refused refused) {
            told[0] = refused.reason;
        }
        told[1] = seen.size();
        told[2] = open.size();
        told[3] = forms.size() - before;
        return seen.size();
    }

    private void look(Laid at) throws Refused {
        int head = switch (at.rule()) {
            case 0, 1 -> taken(at);
            case 2 -> shut();
            case 3 -> inForce(at.p());
            case 4 -> both(at);
            case 5 -> part(at.p(), 2).a();
            case 6 -> part(at.p(), 2).b();
            case 7, 8 -> either(at);
            case 9 -> cases(at);
            case 10 -> implied(at);
            case 11 -> then(at);
            case 12 -> any(at);
            case 13 -> so(at);
            default -> throw new Refused(8);
        };
        if (at.rule() == 1) {
            open.add(new Box(seen.size()));
        }
        seen.add(new Seen(at.rule(), head, List.copyOf(open)));
    }

    private int taken(Laid at) throws Refused {
        if (!known(at.f())) {
            throw new Refused(1);
        }
        return at.f();
    }

    private int shut() throws Refused {
        if (open.isEmpty()) {
            throw new Refused(5);
        }
        open.remove(open.size() - 1).end = seen.size() - 1;
        return NONE;
    }

    private void ahead(int p) throws Refused {
        if (!line(p)) {
            throw new Refused(1);
        }
        if (p >= seen.size()) {
            throw new Refused(2);
        }
    }

    private int inForce(int p) throws Refused {
        ahead(p);
        if (!seen.get(p).inForce()) {
            throw new Refused(3);
        }
        return seen.get(p).head();
    }

    private Form part(int p, int kind) throws Refused {
        return formed(inForce(p), kind);
    }

    private Form formed(int held, int kind) throws Refused {
        Form form = forms.get(held);
        if (form.kind() != kind) {
            throw new Refused(4);
        }
        return form;
    }

    private int made(int kind, int a, int b) throws Refused {
        int f = formula(kind, a, b);
        if (f == FULL) {
            throw new Refused(7);
        }
        return f;
    }

    private int both(Laid at) throws Refused {
        int a = inForce(at.p());
        return made(2, a, inForce(at.q()));
    }

    private int either(Laid at) throws Refused {
        int held = inForce(at.p());
        int other = taken(at);
        return at.rule() == 7 ? made(3, held, other) : made(3, other, held);
    }

    private int cases(Laid at) throws Refused {
        int held = inForce(at.p());
        ahead(at.q());
        ahead(at.r());
        Form or = formed(held, 3);
        int endOfQ = end(at.q());
        int endOfR = end(at.r());
        if (seen.get(at.q()).head() != or.a() || seen.get(at.r()).head() != or.b() || endOfQ != endOfR) {
            throw new Refused(6);
        }
        return endOfQ;
    }

    /** What the END of the BOX of LINE p holds. */
    private int end(int p) throws Refused {
        List<Box> boxes = seen.get(p).boxes();
        if (seen.get(p).rule() != 1) {
            throw new Refused(5);
        }
        for (Box box : boxes) {
            if ((box.start == p) != (box.end != NONE)) {
                throw new Refused(5);
            }
        }
        int held = seen.get(boxes.get(boxes.size() - 1).end).head();
        if (held == NONE) {
            throw new Refused(5);
        }
        return held;
    }

    private int implied(Laid at) throws Refused {
        ahead(at.p());
        int held = end(at.p());
        return made(4, seen.get(at.p()).head(), held);
    }

    private int then(Laid at) throws Refused {
        int held = inForce(at.p());
        int a = inForce(at.q());
        Form form = formed(held, 4);
        if (form.a() != a) {
            throw new Refused(6);
        }
        return form.b();
    }

    private int any(Laid at) throws Refused {
        int held = inForce(at.p());
        int f = taken(at);
        formed(held, 0);
        return f;
    }

    private int so(Laid at) throws Refused {
        Form whole = part(at.p(), 4);
        formed(whole.b(), 0);
        Form not = formed(whole.a(), 4);
        formed(not.b(), 0);
        return not.a();
    }

    int told(int what) {
        return what < 0 || what > 3 ? OUTSIDE : told[what];
    }

    int head(int k) {
        return !line(k) ? OUTSIDE : k < seen.size() ? seen.get(k).head() : NONE;
    }

    int force(int k) {
        return !line(k) ? OUTSIDE : k < seen.size() && seen.get(k).inForce() ? 1 : 0;
    }

    private List<Integer> grounds(int k) {
        List<Integer> grounds = new ArrayList<>();
        for (int j = 0; j <= k && head(k) != NONE; j++) {
            int at = j;
            if (seen.get(j).rule() == 0 || seen.get(k).boxes().stream().anyMatch(box -> box.start == at)) {
                grounds.add(j);
            }
        }
        return grounds;
    }

    int hangs(int k, int i) {
        if (!line(k)) {
            return OUTSIDE;
        }
        List<Integer> grounds = grounds(k);
        return i >= 0 && i < grounds.size() ? grounds.get(i) : NONE;
    }

    int sound(int k) {
        if (!line(k)) {
            return OUTSIDE;
        }
        if (head(k) == NONE) {
            return NONE;
        }
        for (int v = 0; v < 64; v++) {
            boolean[] is = values(v);
            if (!is[head(k)] && grounds(k).stream().allMatch(j -> is[head(j)])) {
                return 0;
            }
        }
        return 1;
    }

    /** Another one with the same FORMULAS and LINES, to try a LINE on. */
    PlainModel copy() {
        PlainModel other = new PlainModel();
        other.forms.addAll(forms);
        System.arraycopy(laid, 0, other.laid, 0, laid.length);
        return other;
    }
}
