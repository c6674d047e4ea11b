import java.math.BigDecimal;
import java.math.BigInteger;
import java.math.MathContext;
import java.math.RoundingMode;
import java.util.ArrayDeque;
import java.util.ArrayList;
import java.util.HashMap;
import java.util.List;
import java.util.Map;
import java.util.NoSuchElementException;

/** The document once more, over BigDecimal and trees, in the plainest way: what answers are due. */
final class Model {
    private static final BigDecimal LIMIT = BigDecimal.TEN.pow(12);
    private static final MathContext EXACT = new MathContext(100);

    record Span(BigDecimal low, BigDecimal high) {
        Span {
            low = plain(low);
            high = plain(high);
        }

        boolean single() {
            return low.compareTo(high) == 0;
        }

        boolean holdsZero() {
            return low.signum() <= 0 && high.signum() >= 0;
        }

        boolean in(Span other) {
            return low.compareTo(other.low) >= 0 && high.compareTo(other.high) <= 0;
        }
    }

    record Node(char act, BigDecimal number, int exponent, Node u, Node v) {
        int size() {
            return 1 + (u == null ? 0 : u.size()) + (v == null ? 0 : v.size());
        }

        boolean has(char letter) {
            return act == letter || u != null && u.has(letter) || v != null && v.has(letter);
        }
    }

    record Kept(int shelf, Span span) { }

    record Piece(Span span, char kind) { }

    private int digits = 6;
    private String text = "";
    private final Span[] shelves = new Span[10];
    private final Node[] formulas = new Node[4];
    private final ArrayDeque<Kept> kept = new ArrayDeque<>();
    private List<Piece> pieces = new ArrayList<>();
    private static final Map<String, BigDecimal> CURVES = new HashMap<>();

    static BigDecimal plain(BigDecimal number) {
        return number.signum() == 0 ? BigDecimal.ZERO : number.stripTrailingZeros();
    }

    // ---- telling

    private Span tell(BigDecimal low, BigDecimal high) {
        Span span = new Span(low.setScale(digits, RoundingMode.FLOOR),
                high.setScale(digits, RoundingMode.CEILING));
        return checked(span);
    }

    private static Span checked(Span span) {
        if (span.low.abs().compareTo(LIMIT) >= 0 || span.high.abs().compareTo(LIMIT) >= 0) {
            throw new IllegalStateException();
        }
        return span;
    }

    private static Span single(BigDecimal number) {
        return new Span(number, number);
    }

    private Span plus(Span a, Span b) {
        return tell(a.low.add(b.low), a.high.add(b.high));
    }

    private Span minus(Span a, Span b) {
        return tell(a.low.subtract(b.high), a.high.subtract(b.low));
    }

    private Span times(Span a, Span b) {
        BigDecimal[] all = {a.low.multiply(b.low), a.low.multiply(b.high),
            a.high.multiply(b.low), a.high.multiply(b.high)};
        BigDecimal low = all[0];
        BigDecimal high = all[0];
        for (BigDecimal one : all) {
            low = low.min(one);
            high = high.max(one);
        }
        return tell(low, high);
    }

    private Span over(Span a, Span b) {
        if (b.holdsZero()) {
            throw new ArithmeticException();
        }
        BigDecimal low = null;
        BigDecimal high = null;
        for (BigDecimal p : new BigDecimal[] {a.low, a.high}) {
            for (BigDecimal q : new BigDecimal[] {b.low, b.high}) {
                BigDecimal down = p.divide(q, digits, RoundingMode.FLOOR);
                BigDecimal up = p.divide(q, digits, RoundingMode.CEILING);
                low = low == null ? down : low.min(down);
                high = high == null ? up : high.max(up);
            }
        }
        return tell(low, high);
    }

    private Span negative(Span a) {
        return tell(a.high.negate(), a.low.negate());
    }

    private Span size(Span a) {
        BigDecimal p = a.low.abs();
        BigDecimal q = a.high.abs();
        return tell(a.holdsZero() ? BigDecimal.ZERO : p.min(q), p.max(q));
    }

    private Span raised(Span a, int exponent) {
        if (exponent == 0) {
            return tell(BigDecimal.ONE, BigDecimal.ONE);
        }
        BigDecimal p = a.low.pow(exponent);
        BigDecimal q = a.high.pow(exponent);
        boolean dips = exponent % 2 == 0 && a.holdsZero();
        return tell(dips ? BigDecimal.ZERO : p.min(q), p.max(q));
    }

    private Span rooted(Span a, int by) {
        if (a.low.signum() < 0) {
            throw new ArithmeticException();
        }
        return tell(rootOf(a.low, by, false), rootOf(a.high, by, true));
    }

    private BigDecimal rootOf(BigDecimal number, int by, boolean up) {
        BigDecimal scaled = number.movePointRight(digits * by);
        BigInteger floor = scaled.toBigInteger();
        BigInteger low = BigInteger.ZERO;
        BigInteger high = BigInteger.ONE.shiftLeft(floor.bitLength() / by + 1);
        while (low.compareTo(high) < 0) {
            BigInteger middle = low.add(high).add(BigInteger.ONE).shiftRight(1);
            if (middle.pow(by).compareTo(floor) <= 0) {
                low = middle;
            } else {
                high = middle.subtract(BigInteger.ONE);
            }
        }
        boolean exact = new BigDecimal(low.pow(by)).compareTo(scaled) == 0;
        return new BigDecimal(up && !exact ? low.add(BigInteger.ONE) : low, digits);
    }

    private Span curved(Span a, char act) {
        if (act == 'l' && a.low.signum() <= 0) {
            throw new ArithmeticException();
        }
        return tell(curve(act, a.low), curve(act, a.high));
    }

    static BigDecimal curve(char act, BigDecimal x) {
        String key = act + plain(x).toPlainString();
        BigDecimal known = CURVES.get(key);
        if (known == null) {
            known = act == 'e' ? exp(x) : act == 'l' ? ln(x) : arc(x);
            if (CURVES.size() < 200_000) {
                CURVES.put(key, known);
            }
        }
        return known;
    }

    static BigDecimal exp(BigDecimal x) {
        if (x.signum() == 0) {
            return BigDecimal.ONE;
        }
        if (x.compareTo(BigDecimal.valueOf(40)) > 0) {
            return LIMIT.multiply(BigDecimal.TEN);
        }
        if (x.compareTo(BigDecimal.valueOf(-60)) < 0) {
            return BigDecimal.ONE.movePointLeft(40);
        }
        BigDecimal part = x.divide(BigDecimal.valueOf(1 << 20), EXACT);
        BigDecimal sum = BigDecimal.ONE;
        BigDecimal term = BigDecimal.ONE;
        for (int n = 1; n < 40; n++) {
            term = term.multiply(part, EXACT).divide(BigDecimal.valueOf(n), EXACT);
            sum = sum.add(term, EXACT);
        }
        for (int i = 0; i < 20; i++) {
            sum = sum.multiply(sum, EXACT);
        }
        return sum;
    }

    static BigDecimal ln(BigDecimal x) {
        if (x.compareTo(BigDecimal.ONE) == 0) {
            return BigDecimal.ZERO;
        }
        BigDecimal y = new BigDecimal(Math.log(x.doubleValue()));
        for (int i = 0; i < 3; i++) {
            BigDecimal e = exp(y);
            BigDecimal step = x.subtract(e, EXACT).divide(x.add(e, EXACT), EXACT);
            y = y.add(step.multiply(BigDecimal.valueOf(2)), EXACT);
        }
        return y;
    }

    static BigDecimal arc(BigDecimal x) {
        BigDecimal t = x;
        for (int i = 0; i < 8; i++) {
            BigDecimal root = BigDecimal.ONE.add(t.multiply(t), EXACT).sqrt(EXACT);
            t = t.divide(BigDecimal.ONE.add(root), EXACT);
        }
        BigDecimal square = t.multiply(t, EXACT);
        BigDecimal power = t;
        BigDecimal sum = t;
        for (int n = 3; n < 61; n += 2) {
            power = power.multiply(square, EXACT).negate();
            sum = sum.add(power.divide(BigDecimal.valueOf(n), EXACT), EXACT);
        }
        return sum.multiply(BigDecimal.valueOf(256));
    }

    private Span pi() {
        BigDecimal pi = new BigDecimal("3.14159265358979323846264338327950288419716939937510");
        return tell(pi, pi);
    }

    private Span e() {
        BigDecimal e = new BigDecimal("2.71828182845904523536028747135266249775724709369995");
        return tell(e, e);
    }

    private Span whole(long number) {
        return tell(BigDecimal.valueOf(number), BigDecimal.valueOf(number));
    }

    // ---- formulas

    private Span valueOf(Node f, Span x, Span y) {
        switch (f.act) {
            case '#': return tell(f.number, f.number);
            case 'p': return pi();
            case 'x': return x;
            case 'y': return y;
            default: break;
        }
        Span u = valueOf(f.u, x, y);
        if (f.v != null) {
            Span v = valueOf(f.v, x, y);
            switch (f.act) {
                case '+': return plus(u, v);
                case '-': return minus(u, v);
                case '*': return times(u, v);
                default: return over(u, v);
            }
        }
        switch (f.act) {
            case '^': return raised(u, f.exponent);
            case '~': return negative(u);
            case 'r': return rooted(u, 2);
            default: return curved(u, f.act);
        }
    }

    private Span slopeOf(Node f, Span x, Span y) {
        Span u;
        Span v;
        Span s;
        Span t;
        switch (f.act) {
            case '#':
            case 'p':
            case 'y':
                return whole(0);
            case 'x':
                return whole(1);
            case '+':
                s = slopeOf(f.u, x, y);
                return plus(s, slopeOf(f.v, x, y));
            case '-':
                s = slopeOf(f.u, x, y);
                return minus(s, slopeOf(f.v, x, y));
            case '*':
                s = slopeOf(f.u, x, y);
                s = times(s, valueOf(f.v, x, y));
                u = valueOf(f.u, x, y);
                return plus(s, times(u, slopeOf(f.v, x, y)));
            case '/':
                s = slopeOf(f.u, x, y);
                u = valueOf(f.u, x, y);
                u = over(u, valueOf(f.v, x, y));
                t = times(u, slopeOf(f.v, x, y));
                s = minus(s, t);
                return over(s, valueOf(f.v, x, y));
            case '^':
                if (f.exponent == 0) {
                    return whole(0);
                }
                t = whole(f.exponent);
                u = raised(valueOf(f.u, x, y), f.exponent - 1);
                t = times(t, u);
                return times(t, slopeOf(f.u, x, y));
            case '~':
                return negative(slopeOf(f.u, x, y));
            case 'r':
                s = slopeOf(f.u, x, y);
                t = whole(2);
                v = rooted(valueOf(f.u, x, y), 2);
                return over(s, times(t, v));
            case 'e':
                u = curved(valueOf(f.u, x, y), 'e');
                return times(u, slopeOf(f.u, x, y));
            case 'l':
                s = slopeOf(f.u, x, y);
                return over(s, valueOf(f.u, x, y));
            default:
                s = slopeOf(f.u, x, y);
                t = whole(1);
                u = raised(valueOf(f.u, x, y), 2);
                return over(s, plus(t, u));
        }
    }

    /** Reads by descent; throws a fault at the first sign that cannot stand. */
    static final class Descent {
        static final class Fault extends RuntimeException {
            private static final long serialVersionUID = 1L;
            final int place;

            Fault(int place) {
                super(null, null, false, false);
                this.place = place;
            }
        }

        private final String text;
        private int at;

        Descent(String text) {
            this.text = text;
        }

        private char sign() {
            return at < text.length() ? text.charAt(at) : 0;
        }

        private boolean digit() {
            return sign() >= '0' && sign() <= '9';
        }

        Node all() {
            Node node = sum();
            if (at < text.length()) {
                throw new Fault(at);
            }
            return node;
        }

        private Node sum() {
            Node node = product();
            while (sign() == '+' || sign() == '-') {
                char act = text.charAt(at++);
                node = new Node(act, null, 0, node, product());
            }
            return node;
        }

        private Node product() {
            Node node = power();
            while (sign() == '*' || sign() == '/') {
                char act = text.charAt(at++);
                node = new Node(act, null, 0, node, power());
            }
            return node;
        }

        private Node power() {
            Node node = atom();
            if (sign() == '^') {
                at++;
                if (!digit()) {
                    throw new Fault(at);
                }
                node = new Node('^', null, text.charAt(at++) - '0', node, null);
            }
            return node;
        }

        private Node atom() {
            char sign = sign();
            if (digit()) {
                return number();
            }
            if (sign == 'x' || sign == 'y' || sign == 'p') {
                at++;
                return new Node(sign, null, 0, null, null);
            }
            if (sign == '-' || sign == 'r' || sign == 'e' || sign == 'l' || sign == 'a') {
                at++;
                return new Node(sign == '-' ? '~' : sign, null, 0, atom(), null);
            }
            if (sign == '(') {
                at++;
                Node node = sum();
                if (sign() != ')') {
                    throw new Fault(at);
                }
                at++;
                return node;
            }
            throw new Fault(at);
        }

        private Node number() {
            int start = at;
            int count = 0;
            while (digit()) {
                if (++count > 12) {
                    throw new Fault(at);
                }
                at++;
            }
            if (sign() == '.') {
                at++;
                if (!digit()) {
                    throw new Fault(at);
                }
                while (digit()) {
                    if (++count > 12) {
                        throw new Fault(at);
                    }
                    at++;
                }
            }
            return new Node('#', new BigDecimal(text.substring(start, at)), 0, null, null);
        }
    }

    // ---- the checks

    private static void shelf(int... all) {
        for (int one : all) {
            if (one < 0 || one > 9) {
                throw new IndexOutOfBoundsException();
            }
        }
    }

    private static void formula(int... all) {
        for (int one : all) {
            if (one < 0 || one > 3) {
                throw new IndexOutOfBoundsException();
            }
        }
    }

    private static void within(int number, int least, int most) {
        if (number < least || number > most) {
            throw new IllegalArgumentException();
        }
    }

    private void holding(int... all) {
        for (int one : all) {
            if (shelves[one] == null) {
                throw new NoSuchElementException();
            }
        }
    }

    private void defined(int... all) {
        for (int one : all) {
            if (formulas[one] == null) {
                throw new NoSuchElementException();
            }
        }
    }

    private void noY(int formula) {
        if (formulas[formula].has('y')) {
            throw new UnsupportedOperationException();
        }
    }

    private boolean fill(int shelf, Span span) {
        kept.addLast(new Kept(shelf, shelves[shelf]));
        if (kept.size() > 12) {
            kept.removeFirst();
        }
        shelves[shelf] = span;
        return span.single();
    }

    // ---- digits, the text

    int setDigits(int many) {
        within(many, 0, 10);
        int before = digits;
        digits = many;
        return before;
    }

    int digits() {
        return digits;
    }

    int type(char sign) {
        within(sign, 32, 126);
        if (text.length() == 60) {
            throw new IllegalStateException();
        }
        text += sign;
        return text.length();
    }

    int erase() {
        int before = text.length();
        text = "";
        return before;
    }

    char signAt(int place) {
        within(place, 0, text.length() - 1);
        return text.charAt(place);
    }

    // ---- boxes

    boolean put(int shelf, long number, int scale) {
        shelf(shelf);
        within(scale, 0, 18);
        BigDecimal exact = BigDecimal.valueOf(number, scale);
        return fill(shelf, tell(exact, exact));
    }

    boolean read(int shelf) {
        shelf(shelf);
        if (!text.matches("[+-]?([0-9]+[.]?[0-9]*|[.][0-9]+)")
                || text.replaceAll("[^0-9]", "").length() > 22) {
            throw new IllegalArgumentException();
        }
        BigDecimal exact = new BigDecimal(text);
        Span span = tell(exact, exact);
        text = "";
        return fill(shelf, span);
    }

    boolean constant(int shelf, char which) {
        shelf(shelf);
        if (which != 'p' && which != 'e') {
            throw new IllegalArgumentException();
        }
        return fill(shelf, which == 'p' ? pi() : e());
    }

    private static Span hull(Span a, Span b) {
        return new Span(a.low.min(b.low), a.high.max(b.high));
    }

    boolean join(int shelf, int a, int b) {
        shelf(shelf, a, b);
        holding(a, b);
        return fill(shelf, hull(shelves[a], shelves[b]));
    }

    private static Span common(Span a, Span b) {
        BigDecimal low = a.low.max(b.low);
        BigDecimal high = a.high.min(b.high);
        return low.compareTo(high) > 0 ? null : new Span(low, high);
    }

    boolean meet(int shelf, int a, int b) {
        shelf(shelf, a, b);
        holding(a, b);
        Span span = common(shelves[a], shelves[b]);
        if (span == null) {
            throw new NoSuchElementException();
        }
        return fill(shelf, span);
    }

    int low(int shelf) {
        shelf(shelf);
        holding(shelf);
        text = shelves[shelf].low.toPlainString();
        return text.length();
    }

    int high(int shelf) {
        shelf(shelf);
        holding(shelf);
        text = shelves[shelf].high.toPlainString();
        return text.length();
    }

    int width(int shelf) {
        shelf(shelf);
        holding(shelf);
        text = plain(shelves[shelf].high.subtract(shelves[shelf].low)).toPlainString();
        return text.length();
    }

    boolean isWithin(int a, int b) {
        shelf(a, b);
        holding(a, b);
        return shelves[a].in(shelves[b]);
    }

    int compare(int a, int b) {
        shelf(a, b);
        holding(a, b);
        if (shelves[a].high.compareTo(shelves[b].low) < 0) {
            return -1;
        }
        if (shelves[a].low.compareTo(shelves[b].high) > 0) {
            return 1;
        }
        return shelves[a].single() && shelves[b].single() ? 0 : 2;
    }

    int sure(int shelf) {
        shelf(shelf);
        holding(shelf);
        int best = -1;
        for (int many = 0; many <= 10; many++) {
            BigDecimal p = shelves[shelf].low.setScale(many, RoundingMode.FLOOR);
            BigDecimal q = shelves[shelf].high.setScale(many, RoundingMode.FLOOR);
            best = p.compareTo(q) == 0 ? many : best;
        }
        return best;
    }

    int undo() {
        if (kept.isEmpty()) {
            throw new NoSuchElementException();
        }
        Kept last = kept.removeLast();
        shelves[last.shelf] = last.span;
        return last.shelf;
    }

    // ---- acts

    private boolean two(int shelf, int a, int b, char act) {
        shelf(shelf, a, b);
        holding(a, b);
        Span p = shelves[a];
        Span q = shelves[b];
        return fill(shelf, act == '+' ? plus(p, q) : act == '-' ? minus(p, q)
                : act == '*' ? times(p, q) : over(p, q));
    }

    boolean add(int shelf, int a, int b) {
        return two(shelf, a, b, '+');
    }

    boolean subtract(int shelf, int a, int b) {
        return two(shelf, a, b, '-');
    }

    boolean multiply(int shelf, int a, int b) {
        return two(shelf, a, b, '*');
    }

    boolean divide(int shelf, int a, int b) {
        return two(shelf, a, b, '/');
    }

    boolean power(int shelf, int a, int exponent) {
        shelf(shelf, a);
        within(exponent, 0, 9);
        holding(a);
        return fill(shelf, raised(shelves[a], exponent));
    }

    boolean root(int shelf, int a, int by) {
        shelf(shelf, a);
        within(by, 2, 4);
        holding(a);
        return fill(shelf, rooted(shelves[a], by));
    }

    boolean apply(int shelf, int a, char act) {
        shelf(shelf, a);
        if ("-bela".indexOf(act) < 0) {
            throw new IllegalArgumentException();
        }
        holding(a);
        Span span = shelves[a];
        return fill(shelf, act == '-' ? negative(span) : act == 'b' ? size(span)
                : curved(span, act));
    }

    boolean solve(int shelf, int first, boolean isSecond) {
        shelf(shelf, first);
        shelf(first + 5);
        for (int i = 0; i < 6; i++) {
            holding(first + i);
        }
        Span a = shelves[first];
        Span b = shelves[first + 1];
        Span c = shelves[first + 2];
        Span d = shelves[first + 3];
        Span e = shelves[first + 4];
        Span f = shelves[first + 5];
        Span above = isSecond ? minus(times(a, f), times(c, d)) : minus(times(c, e), times(b, f));
        return fill(shelf, over(above, minus(times(a, e), times(b, d))));
    }

    // ---- formulas

    int define(int formula) {
        formula(formula);
        try {
            Node node = new Descent(text).all();
            formulas[formula] = node;
            return node.size();
        } catch (Descent.Fault fault) {
            return -1 - fault.place;
        } finally {
            text = "";
        }
    }

    boolean hasY(int formula) {
        formula(formula);
        defined(formula);
        return formulas[formula].has('y');
    }

    boolean value(int shelf, int formula, int x, int y) {
        shelf(shelf, x, y);
        formula(formula);
        defined(formula);
        holding(x, y);
        return fill(shelf, valueOf(formulas[formula], shelves[x], shelves[y]));
    }

    boolean slope(int shelf, int formula, int x, int y) {
        shelf(shelf, x, y);
        formula(formula);
        defined(formula);
        holding(x, y);
        return fill(shelf, slopeOf(formulas[formula], shelves[x], shelves[y]));
    }

    /** The value, or null if something is refused or too great. */
    private Span valueOrNone(Node f, Span x, Span y) {
        try {
            return valueOf(f, x, y);
        } catch (ArithmeticException | IllegalStateException none) {
            return null;
        }
    }

    private Span slopeOrNone(Node f, Span x) {
        try {
            return slopeOf(f, x, x);
        } catch (ArithmeticException | IllegalStateException none) {
            return null;
        }
    }

    int decide(int formula, int other, int x) {
        formula(formula, other);
        shelf(x);
        defined(formula, other);
        holding(x);
        int now = digits;
        try {
            for (int many = 0; many <= 10; many++) {
                digits = many;
                Span p = valueOrNone(formulas[formula], shelves[x], shelves[x]);
                Span q = valueOrNone(formulas[other], shelves[x], shelves[x]);
                if (p != null && q != null && p.high.compareTo(q.low) < 0) {
                    return many;
                }
                if (p != null && q != null && p.low.compareTo(q.high) > 0) {
                    return 20 + many;
                }
            }
            return -1;
        } finally {
            digits = now;
        }
    }

    // ---- zeros

    private BigDecimal middle(Span span) {
        BigDecimal half = span.low.add(span.high).divide(BigDecimal.valueOf(2));
        return half.setScale(digits, RoundingMode.FLOOR).max(span.low);
    }

    private List<Span> halves(Span span) {
        BigDecimal middle = middle(span);
        return middle.compareTo(span.low) > 0
                ? List.of(new Span(span.low, middle), new Span(middle, span.high)) : List.of(span);
    }

    private List<Span> cut(Span span, int cuts) {
        List<Span> all = List.of(span);
        for (int i = 0; i < cuts; i++) {
            List<Span> next = new ArrayList<>();
            for (Span one : all) {
                next.addAll(halves(one));
            }
            all = next;
        }
        return all;
    }

    int zeros(int formula, int a, int cuts) {
        formula(formula);
        shelf(a);
        within(cuts, 0, 3);
        defined(formula);
        holding(a);
        noY(formula);
        pieces = new ArrayList<>();
        look(formulas[formula], shelves[a], cuts);
        return pieces.size();
    }

    private void look(Node f, Span span, int cuts) {
        char kind = kindOf(f, span);
        if (kind == '?' && cuts > 0 && halves(span).size() == 2) {
            look(f, halves(span).get(0), cuts - 1);
            look(f, halves(span).get(1), cuts - 1);
        } else if (kind != 'n') {
            pieces.add(new Piece(span, kind));
        }
    }

    private char kindOf(Node f, Span span) {
        Span value = valueOrNone(f, span, span);
        if (value == null) {
            return '?';
        }
        if (!value.holdsZero()) {
            return 'n';
        }
        Span slope = slopeOrNone(f, span);
        if (slope == null || slope.holdsZero()) {
            return '?';
        }
        Span p = valueOrNone(f, single(span.low), single(span.low));
        Span q = valueOrNone(f, single(span.high), single(span.high));
        if (p == null || q == null) {
            return '?';
        }
        if (p.low.signum() > 0 && q.low.signum() > 0 || p.high.signum() < 0 && q.high.signum() < 0) {
            return 'n';
        }
        boolean one = p.high.signum() <= 0 && q.low.signum() >= 0
                || q.high.signum() <= 0 && p.low.signum() >= 0;
        return one ? '1' : '?';
    }

    char pieceKind(int index) {
        if (index < 0 || index >= pieces.size()) {
            throw new NoSuchElementException();
        }
        return pieces.get(index).kind;
    }

    boolean piece(int shelf, int index) {
        shelf(shelf);
        pieceKind(index);
        return fill(shelf, pieces.get(index).span);
    }

    boolean narrow(int shelf, int formula, int a) {
        shelf(shelf, a);
        formula(formula);
        defined(formula);
        holding(a);
        noY(formula);
        Span m = single(middle(shelves[a]));
        Span v = valueOf(formulas[formula], m, m);
        Span s = slopeOf(formulas[formula], shelves[a], shelves[a]);
        Span span = common(shelves[a], minus(m, over(v, s)));
        if (span == null) {
            throw new IllegalStateException();
        }
        return fill(shelf, span);
    }

    int pairs(int formula, int other, int x, int y, int cuts) {
        formula(formula, other);
        shelf(x, y);
        within(cuts, 0, 2);
        defined(formula, other);
        holding(x, y);
        int count = 0;
        for (Span p : cut(shelves[x], cuts)) {
            for (Span q : cut(shelves[y], cuts)) {
                Span one = valueOrNone(formulas[formula], p, q);
                Span two = valueOrNone(formulas[other], p, q);
                if ((one == null || one.holdsZero()) && (two == null || two.holdsZero())) {
                    count++;
                }
            }
        }
        return count;
    }

    // ---- bounds of formulas

    private void bounding(int shelf, int formula, int a, int cuts) {
        shelf(shelf, a);
        formula(formula);
        within(cuts, 0, 3);
        defined(formula);
        holding(a);
        noY(formula);
    }

    boolean least(int shelf, int formula, int a, int cuts) {
        bounding(shelf, formula, a, cuts);
        BigDecimal low = LIMIT;
        BigDecimal high = LIMIT;
        for (Span part : cut(shelves[a], cuts)) {
            low = low.min(valueOf(formulas[formula], part, part).low);
            Span m = single(middle(part));
            high = high.min(valueOf(formulas[formula], m, m).high);
        }
        return fill(shelf, new Span(low, high));
    }

    boolean greatest(int shelf, int formula, int a, int cuts) {
        bounding(shelf, formula, a, cuts);
        BigDecimal low = LIMIT.negate();
        BigDecimal high = LIMIT.negate();
        for (Span part : cut(shelves[a], cuts)) {
            high = high.max(valueOf(formulas[formula], part, part).high);
            Span m = single(middle(part));
            low = low.max(valueOf(formulas[formula], m, m).low);
        }
        return fill(shelf, new Span(low, high));
    }

    boolean area(int shelf, int formula, int a, int cuts) {
        bounding(shelf, formula, a, cuts);
        Span sum = null;
        for (Span part : cut(shelves[a], cuts)) {
            Span value = valueOf(formulas[formula], part, part);
            Span product = times(value, single(part.high.subtract(part.low)));
            sum = sum == null ? product : plus(sum, product);
        }
        return fill(shelf, sum);
    }

    boolean move(int shelf, int formula, int a, int step) {
        shelf(shelf, a);
        formula(formula);
        within(step, 1, 1000);
        defined(formula);
        holding(a);
        noY(formula);
        Span start = shelves[a];
        Span tube = start;
        BigDecimal h = BigDecimal.valueOf(step, 3);
        BigDecimal last = BigDecimal.ONE.movePointLeft(digits);
        for (int i = 0; i < 8; i++) {
            Span v = valueOf(formulas[formula], tube, tube);
            Span t = plus(start, times(new Span(BigDecimal.ZERO, h), v));
            if (t.in(tube)) {
                return fill(shelf, plus(start, times(single(h), v)));
            }
            Span both = hull(tube, t);
            tube = checked(new Span(both.low.subtract(last), both.high.add(last)));
        }
        throw new IllegalStateException();
    }

    // ---- figures

    int held() {
        int count = 0;
        for (Span span : shelves) {
            count += span == null ? 0 : 1;
        }
        return count;
    }

    long checksum() {
        long sum = 7 * 31L + digits;
        for (Span span : shelves) {
            sum = sum * 31 + (span == null ? 0 : 1);
            if (span != null) {
                sum = signs(signs(sum, span.low.toPlainString()), span.high.toPlainString());
            }
        }
        return signs(sum, text);
    }

    private static long signs(long start, String text) {
        long sum = start;
        for (int i = 0; i < text.length(); i++) {
            sum = sum * 31 + text.charAt(i);
        }
        return sum;
    }

    /** Checked wholly, though the theorem says that it is always true. */
    boolean isSound() {
        int now = digits;
        boolean sound = true;
        for (Node f : formulas) {
            for (Span span : shelves) {
                if (f == null || span == null) {
                    continue;
                }
                Span value = valueOrNone(f, span, span);
                Span m = single(middle(span));
                Span atMiddle = valueOrNone(f, m, m);
                digits = Math.min(now + 1, 10);
                Span finer = valueOrNone(f, span, span);
                digits = now;
                sound = sound && (value == null || atMiddle == null || atMiddle.in(value))
                        && (value == null || finer == null || finer.in(value));
            }
        }
        return sound;
    }
}
