import java.util.ArrayList;
import java.util.List;

/**
 * The theorem, over formulas made up by a fixed row of numbers: what doubles make of a formula at many
 * places, its slope by their own rules, its zeros, its area, its motion, lies in what the class tells.
 */
public final class TheoremTest extends Bench {
    private static final int SAMPLES = 256;
    /** Beyond it doubles have too few digits left to tell anything. */
    private static final double MUCH = 1e6;
    private static long state = 11;

    private TheoremTest() { }

    /** A number and its slope by x, and the greatest of all that came about on the way. */
    private record Dual(double v, double d, double most) {
        static Dual of(double v, double d, Dual a, Dual b) {
            double most = Math.max(Math.max(a.most, b.most), Math.max(Math.abs(v), Math.abs(d)));
            return new Dual(v, d, most);
        }

        Dual power(int n) {
            double less = n == 0 ? 0 : n * Math.pow(v, n - 1);
            return of(Math.pow(v, n), less * d, this, this);
        }

        Dual of(char act) {
            switch (act) {
                case '-':
                    return of(-v, -d, this, this);
                case 'r':
                    double root = Math.sqrt(v);
                    return of(root, d / (2 * root), this, this);
                case 'e':
                    return of(Math.exp(v), Math.exp(v) * d, this, this);
                case 'l':
                    return of(Math.log(v), d / v, this, this);
                default:
                    return of(Math.atan(v), d / (1 + v * v), this, this);
            }
        }

        Dual with(char act, Dual b) {
            switch (act) {
                case '+':
                    return of(v + b.v, d + b.d, this, b);
                case '-':
                    return of(v - b.v, d - b.d, this, b);
                case '*':
                    return of(v * b.v, d * b.v + v * b.d, this, b);
                default:
                    return of(v / b.v, (d * b.v - v * b.d) / (b.v * b.v), this, b);
            }
        }
    }

    private interface Curve {
        Dual at(Dual x);
    }

    /** How strongly it binds tells what parentheses it needs. */
    private record Tree(String text, Curve curve, int binding) {
        String within(int least) {
            return binding < least ? "(" + text + ")" : text;
        }

        Dual at(double x) {
            return curve.at(new Dual(x, 1, Math.abs(x)));
        }

        double value(double x) {
            return at(x).v;
        }
    }

    private static int next(int bound) {
        state = state * 6364136223846793005L + 1442695040888963407L;
        return (int) ((state >>> 33) % bound);
    }

    private static Tree constant(String text, double number) {
        return new Tree(text, x -> new Dual(number, 0, number), 4);
    }

    private static Tree leaf() {
        switch (next(6)) {
            case 0:
                return constant("p", Math.PI);
            case 1:
                int number = next(50);
                return constant(number / 10 + "." + number % 10, number / 10.0);
            case 2:
                int whole = 1 + next(4);
                return constant("" + whole, whole);
            default:
                return new Tree("x", x -> x, 4);
        }
    }

    private static Tree tree(int depth) {
        if (depth == 0 || next(6) == 0) {
            return leaf();
        }
        Tree left = tree(depth - 1);
        int kind = next(16);
        if (kind < 10) {
            Tree right = tree(depth - 1);
            char act = "+-*/+-*+-*".charAt(kind);
            int binding = act == '+' || act == '-' ? 1 : 2;
            return new Tree(left.within(binding) + act + right.within(binding + 1),
                    x -> left.curve.at(x).with(act, right.curve.at(x)), binding);
        }
        if (kind == 10) {
            int exponent = next(5);
            return new Tree(left.within(4) + "^" + exponent, x -> left.curve.at(x).power(exponent), 3);
        }
        char act = "-rela".charAt(kind - 11);
        return new Tree(act + left.within(4), x -> left.curve.at(x).of(act), 4);
    }

    private static double lowOf(Boxedvalue x, int shelf) {
        return Double.parseDouble(low(x, shelf));
    }

    private static double highOf(Boxedvalue x, int shelf) {
        return Double.parseDouble(high(x, shelf));
    }

    /** What is seen of a formula at many places of a box, the first and the last one with them. */
    private static final class Seen {
        final Tree tree;
        final double from;
        final double to;
        final double[] places = new double[SAMPLES + 1];
        final Dual[] duals = new Dual[SAMPLES + 1];
        double most;
        double least = Double.MAX_VALUE;
        double greatest = -Double.MAX_VALUE;
        double steepest;

        Seen(Tree tree, double from, double to) {
            this.tree = tree;
            this.from = from;
            this.to = to;
            for (int i = 0; i <= SAMPLES; i++) {
                places[i] = from + (to - from) * i / SAMPLES;
                duals[i] = tree.at(places[i]);
                most = Math.max(most, duals[i].most);
                least = Math.min(least, duals[i].v);
                greatest = Math.max(greatest, duals[i].v);
                steepest = Math.max(steepest, Math.abs(duals[i].d));
            }
        }

        double near() {
            return 1e-9 * (1 + most);
        }

        boolean crosses(int i) {
            return duals[i].v > near() && duals[i + 1].v < -near()
                    || duals[i].v < -near() && duals[i + 1].v > near();
        }

        /** The zero between two places, by halving. */
        double zero(int i) {
            double left = places[i];
            double right = places[i + 1];
            for (int k = 0; k < 60; k++) {
                double middle = (left + right) / 2;
                if (tree.value(middle) > 0 == duals[i].v > 0) {
                    left = middle;
                } else {
                    right = middle;
                }
            }
            return left;
        }
    }

    private static void isIn(Boxedvalue x, int shelf, double from, double to, String what) {
        boolean isIn = lowOf(x, shelf) <= to && highOf(x, shelf) >= from;
        due(isIn, true, what + " " + from + " in " + (isIn ? "its box" : box(x, shelf)));
    }

    private static boolean isMade(Call call) {
        return answer(call) instanceof Boolean;
    }

    private static void values(Boxedvalue x, Seen seen) {
        about("value and slope of " + seen.tree.text);
        x.value(7, 0, 0, 0);
        double near = seen.near();
        for (int i = 0; i <= SAMPLES; i += 16) {
            isIn(x, 7, seen.duals[i].v - near, seen.duals[i].v + near, "the value at " + seen.places[i]);
        }
        if (isMade(() -> x.slope(7, 0, 0, 0))) {
            for (int i = 0; i <= SAMPLES; i += 16) {
                double much = 1e-6 * (1 + seen.most);
                isIn(x, 7, seen.duals[i].d - much, seen.duals[i].d + much, "the slope at " + seen.places[i]);
            }
        }
    }

    private static void zeros(Boxedvalue x, Seen seen, int cuts) {
        about("zeros of " + seen.tree.text + " by " + cuts + " cuts");
        int count = x.zeros(0, 0, cuts);
        List<double[]> pieces = new ArrayList<>();
        double before = -Double.MAX_VALUE;
        for (int i = 0; i < count; i++) {
            x.piece(7, i);
            double[] piece = {lowOf(x, 7), highOf(x, 7)};
            due(piece[0] >= before, true, "whether piece " + i + " is right of the one ahead");
            before = piece[1];
            pieces.add(piece);
            if (x.pieceKind(i) == '1') {
                int held = 0;
                for (int k = 0; k < SAMPLES; k++) {
                    boolean isInside = seen.places[k] >= piece[0] && seen.places[k + 1] <= piece[1];
                    held += isInside && seen.crosses(k) ? 1 : 0;
                }
                double ends = seen.tree.value(piece[0]) * seen.tree.value(piece[1]);
                due(held <= 1 && ends <= 1e-6, true, "just one zero in piece " + i);
            }
        }
        for (int k = 0; k < SAMPLES; k++) {
            if (seen.crosses(k)) {
                boolean isHeld = false;
                for (double[] piece : pieces) {
                    isHeld |= piece[0] <= seen.places[k + 1] && piece[1] >= seen.places[k];
                }
                due(isHeld, true, "a zero near " + seen.places[k] + " in a piece");
            }
        }
    }

    private static void narrow(Boxedvalue x, Seen seen) {
        about("narrow of " + seen.tree.text);
        Object got = answer(() -> x.narrow(7, 0, 0));
        for (int k = 0; k < SAMPLES; k++) {
            if (seen.crosses(k)) {
                double zero = seen.zero(k);
                if (got instanceof Boolean) {
                    isIn(x, 7, zero - 1e-9, zero + 1e-9, "the zero");
                } else if (isMade(() -> x.slope(8, 0, 0, 0))
                        && (lowOf(x, 8) > 1e-3 || highOf(x, 8) < -1e-3)) {
                    due(got, "a box", "the zero at " + zero);
                }
            }
        }
    }

    private static void bounds(Boxedvalue x, Seen seen, int cuts) {
        about("the bounds of " + seen.tree.text + " by " + cuts + " cuts");
        double near = seen.near();
        double between = seen.steepest * 2 * (seen.to - seen.from) / SAMPLES + near;
        if (isMade(() -> x.least(7, 0, 0, cuts))) {
            isIn(x, 7, seen.least - between, seen.least + near, "the least value");
        }
        if (isMade(() -> x.greatest(7, 0, 0, cuts))) {
            isIn(x, 7, seen.greatest - near, seen.greatest + between, "the greatest value");
        }
        if (isMade(() -> x.area(7, 0, 0, cuts))) {
            double sum = seen.duals[0].v + seen.duals[SAMPLES].v;
            for (int i = 1; i < SAMPLES; i++) {
                sum += (i % 2 == 0 ? 2 : 4) * seen.duals[i].v;
            }
            double area = sum * (seen.to - seen.from) / SAMPLES / 3;
            // Simpson's rule is good to far more than that where the slope is no steeper
            double off = seen.steepest < 1e3 ? 1e-3 * Math.max(1e-3, seen.to - seen.from) : 1;
            isIn(x, 7, area - off, area + off, "the area");
        }
    }

    private static void motion(Boxedvalue x, Seen seen, int step) {
        about("the motion of " + seen.tree.text + " by " + step);
        if (!isMade(() -> x.move(7, 0, 0, step))) {
            return;
        }
        for (int i = 0; i <= SAMPLES; i += 32) {
            double place = seen.places[i];
            double h = step / 1000.0 / 200;
            for (int k = 0; k < 200; k++) {
                double a = seen.tree.value(place);
                double b = seen.tree.value(place + h / 2 * a);
                double c = seen.tree.value(place + h / 2 * b);
                double d = seen.tree.value(place + h * c);
                place += h / 6 * (a + 2 * b + 2 * c + d);
            }
            isIn(x, 7, place - 1e-7 * (1 + seen.most), place + 1e-7 * (1 + seen.most),
                    "the place from " + seen.places[i]);
        }
    }

    private static void decided(Boxedvalue x, Seen seen, Seen other) {
        if (!(other.most < MUCH)) {
            return;
        }
        about("decide of " + seen.tree.text + " and " + other.tree.text);
        int decided = x.decide(0, 1, 0);
        for (int i = 0; i <= SAMPLES && decided >= 0; i += 8) {
            double much = seen.duals[i].v - other.duals[i].v;
            double near = seen.near() + other.near();
            due(decided < 20 ? much < near : much > -near, true, "at " + seen.places[i]);
        }
    }

    private static String decimal(int thousandths) {
        return java.math.BigDecimal.valueOf(thousandths, 3).stripTrailingZeros().toPlainString();
    }

    /** The formula less what it nearly is at a place, so that it has a zero near that. */
    private static Tree withZero(Tree tree, double place) {
        double value = tree.value(place);
        if (!(Math.abs(value) < 1000)) {
            return tree;
        }
        long tenths = Math.round(Math.abs(value) * 10);
        Tree much = constant(tenths / 10 + "." + tenths % 10, tenths / 10.0);
        char act = value < 0 ? '+' : '-';
        return new Tree(tree.text + act + much.text, x -> tree.curve.at(x).with(act, much.curve.at(x)), 1);
    }

    private static void one(int run) {
        int from = next(6000) - 2500;
        int to = from + next(next(2) == 0 ? 4000 : 300);
        Tree first = tree(1 + run % 4);
        Tree tree = next(4) == 0 ? first : withZero(first, (from + next(to - from + 1)) / 1000.0);
        Tree other = tree(2);
        if (tree.text.length() > 60 || other.text.length() > 60) {
            return;
        }
        Boxedvalue x = formula(tree.text, decimal(from), decimal(to));
        define(x, 1, other.text);
        x.setDigits(run % 11);
        Seen seen = new Seen(tree, from / 1000.0, to / 1000.0);
        if (seen.most < MUCH) {
            motion(x, seen, 1 + next(next(2) == 0 ? 1000 : 60));
            zeros(x, seen, next(4));
            narrow(x, seen);
            if (isMade(() -> x.value(7, 0, 0, 0))) {
                values(x, seen);
                bounds(x, seen, next(4));
                decided(x, seen, new Seen(other, seen.from, seen.to));
            }
        }
    }

    // ---- two formulas, two numbers

    private static void solved() {
        about("solve holds the two numbers");
        for (int run = 0; run < 2_000; run++) {
            int u = next(41) - 20;
            int v = next(41) - 20;
            int[] by = {next(19) - 9, next(19) - 9, next(19) - 9, next(19) - 9};
            int[] six = {by[0], by[1], by[0] * u + by[1] * v, by[2], by[3], by[2] * u + by[3] * v};
            int wider = next(3);
            String[] bounds = new String[12];
            for (int i = 0; i < 6; i++) {
                bounds[2 * i] = decimal(six[i] * 1000 - wider * next(30));
                bounds[2 * i + 1] = decimal(six[i] * 1000 + wider * next(30));
            }
            Boxedvalue x = with(bounds);
            x.setDigits(run % 11);
            if (isMade(() -> x.solve(7, 0, false)) && isMade(() -> x.solve(8, 0, true))) {
                isIn(x, 7, u, u, "u, run " + run);
                isIn(x, 8, v, v, "v, run " + run);
            }
        }
    }

    /** Each pair of whole numbers where both formulas are 0 has to be in one of the pairs of pieces. */
    private static void paired() {
        about("pairs: no pair of zeros is left out");
        String[][] texts = {{"x^2+y^2-25", "x-y+1"}, {"x*y-12", "x+y-7"}, {"x^2-y", "y-2*x-3"},
            {"ex*y-y", "(x+1)^2-1"}, {"x-y", "y-x"}, {"l(x+5)/y-l2", "x+y"}};
        for (String[] both : texts) {
            for (int run = 0; run < 200; run++) {
                int fromX = next(8000) - 5000;
                int fromY = next(8000) - 5000;
                int toX = fromX + next(6000);
                int toY = fromY + next(6000);
                int cuts = run % 3;
                Boxedvalue x = with(decimal(fromX), decimal(toX), decimal(fromY), decimal(toY));
                define(x, 0, both[0]);
                define(x, 1, both[1]);
                x.setDigits(run % 11);
                int pairs = x.pairs(0, 1, 0, 1, cuts);
                due(pairs >= 0 && pairs <= 1 << 2 * cuts, true, "how many");
                for (int i = -5; i <= 9; i++) {
                    for (int j = -5; j <= 9; j++) {
                        boolean isInside = i * 1000 >= fromX && i * 1000 <= toX && j * 1000 >= fromY
                                && j * 1000 <= toY;
                        if (isInside && isZero(both[0], i, j) && isZero(both[1], i, j)) {
                            due(pairs > 0, true, both[0] + " and " + both[1] + " at " + i + " " + j);
                        }
                    }
                }
            }
        }
    }

    private static boolean isZero(String text, int u, int v) {
        Boxedvalue x = with("" + u, "" + u, "" + v, "" + v);
        define(x, 0, text);
        return isMade(() -> x.value(7, 0, 0, 1)) && box(x, 7).equals("0 0");
    }

    public static void main(String[] args) {
        int runs = args.length > 0 ? Integer.parseInt(args[0]) : 4_000;
        for (int run = 0; run < runs; run++) {
            one(run);
        }
        solved();
        paired();
        tell("TheoremTest");
    }
}
