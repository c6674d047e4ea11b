import java.util.NoSuchElementException;

/** Long runs of calls, made up by a fixed row of numbers: every answer is that of the model. */
public final class ModelTest {
    private static final int KINDS = 43;
    private static final String[] CURVED = {
        "x^2-2", "x^3-x", "ex-3", "lx", "ax-1/2", "rx-1", "x*x*x-2*x+1/4", "1/x-2", "x-y", "e-x-x",
        "x", "y", "x*y-1", "(x-1)/(x+1)", "x^2+y^2-1", "l(x^2+1)-1", "2-x", "-x", "x/10", "p-x",
    };
    private static long state;
    private static int wrong;

    private ModelTest() { }

    private static int next(int bound) {
        state = state * 6364136223846793005L + 1442695040888963407L;
        return (int) ((state >>> 33) % bound);
    }

    private interface Call {
        long make();
    }

    private static String answer(Call call) {
        try {
            return Long.toString(call.make());
        } catch (IndexOutOfBoundsException | NoSuchElementException | ArithmeticException
                | UnsupportedOperationException | IllegalArgumentException
                | IllegalStateException thrown) {
            // the machine's own one, of a division by 0, is of the class that the document names
            boolean isMachines = "/ by zero".equals(thrown.getMessage());
            return thrown.getClass().getSimpleName() + (isMachines ? " of the machine" : "");
        }
    }

    private static long bit(boolean answer) {
        return answer ? 1 : 0;
    }

    private static int shelf() {
        return next(40) == 0 ? next(2) * 11 - 1 : next(10);
    }

    private static int formula() {
        return next(40) == 0 ? next(2) * 5 - 1 : next(4);
    }

    private static String number(int digits) {
        StringBuilder text = new StringBuilder();
        int ahead = next(digits) + 1;
        for (int i = 0; i < ahead; i++) {
            text.append((char) ('0' + next(10)));
        }
        if (next(3) == 0) {
            text.append('.');
            int behind = next(Math.max(1, digits - ahead)) + 1;
            for (int i = 0; i < behind; i++) {
                text.append((char) ('0' + next(10)));
            }
        }
        return text.toString();
    }

    private static String atom(int depth) {
        switch (next(depth <= 0 ? 5 : 9)) {
            case 0:
            case 1:
            case 2:
                return "x";
            case 3:
                return next(6) == 0 ? number(next(13) + 1) : Integer.toString(next(4));
            case 4:
                return next(3) == 0 ? "y" : next(2) == 0 ? "p" : "x";
            case 5:
            case 6:
                return "-rela".charAt(next(5)) + atom(depth - 1);
            default:
                return "(" + formulaText(depth - 1) + ")";
        }
    }

    private static String formulaText(int depth) {
        StringBuilder text = new StringBuilder(atom(depth));
        for (int i = next(4); i > 0; i--) {
            if (next(4) == 0) {
                text.append('^').append(next(next(3) == 0 ? 10 : 4));
            }
            text.append("+-*/".charAt(next(4))).append(atom(depth));
        }
        return text.toString();
    }

    private static String text() {
        if (next(5) == 0) {
            return (next(2) == 0 ? "-" : next(4) == 0 ? "+" : "") + (next(9) == 0 ? "." : "")
                    + number(next(24) + 1);
        }
        String text = formulaText(next(4));
        if (next(6) == 0) {
            int place = next(text.length());
            text = text.substring(0, place) + "0.x+^()pr ".charAt(next(10)) + text.substring(place);
        }
        return text.length() > 60 ? text.substring(0, 60) : text;
    }

    private static long longNumber() {
        switch (next(8)) {
            case 0:
                return state;
            case 1:
                return next(2) == 0 ? Long.MIN_VALUE : Long.MAX_VALUE;
            case 2:
                return next(2_000_000_000) * 1_000L - 1_000_000_000_000L;
            case 3:
                return next(2_000_000) - 1_000_000;
            default:
                return next(9) - 3;
        }
    }

    private static void compare(String run, Call program, Call model) {
        String got = answer(program);
        String due = answer(model);
        if (!got.equals(due)) {
            wrong++;
            if (wrong < 40) {
                System.out.println(run + " answered " + got + ", due is " + due);
            }
        }
    }

    private static void typeAll(String run, Boxedvalue x, Model m, String text) {
        for (char sign : text.toCharArray()) {
            compare(run + " type " + sign, () -> x.type(sign), () -> m.type(sign));
        }
    }

    private static void run(long seed, int calls) {
        state = seed;
        Boxedvalue x = new Boxedvalue();
        Model m = new Model();
        if (seed % 4 != 0) {
            warmUp("run " + seed + " first", x, m);
        }
        for (int i = 0; i < calls; i++) {
            String run = "run " + seed + " call " + i;
            if (next(12) == 0) {
                narrowBox(run, x, m, next(10));
            }
            one(run, x, m);
            compare(run + " checksum", x::checksum, m::checksum);
        }
        compare("run " + seed + " isSound", () -> bit(x.isSound()), () -> bit(m.isSound()));
    }

    /** So that most calls find boxes and formulas. */
    private static void warmUp(String run, Boxedvalue x, Model m) {
        for (int i = 0; i < 10; i++) {
            narrowBox(run, x, m, i);
        }
        for (int i = 0; i < 4; i++) {
            int f = i;
            typeAll(run, x, m, next(2) == 0 ? text() : CURVED[next(CURVED.length)]);
            compare(run + " define", () -> x.define(f), () -> m.define(f));
        }
    }

    private static void narrowBox(String run, Boxedvalue x, Model m, int shelf) {
        int other = (shelf + 1) % 10;
        long number = next(60) - 20;
        long wider = number + next(20);
        int scale = next(4);
        compare(run + " put", () -> bit(x.put(shelf, number, scale)),
                () -> bit(m.put(shelf, number, scale)));
        compare(run + " put", () -> bit(x.put(other, wider, scale)),
                () -> bit(m.put(other, wider, scale)));
        compare(run + " join", () -> bit(x.join(shelf, shelf, other)),
                () -> bit(m.join(shelf, shelf, other)));
    }

    private static void one(String run, Boxedvalue x, Model m) {
        int kind = next(KINDS);
        int s = shelf();
        int a = shelf();
        int b = shelf();
        int f = formula();
        int g = formula();
        int cuts = next(20) == 0 ? next(2) * 5 - 1 : next(4);
        String call = run + " kind " + kind + " (" + s + " " + a + " " + b + " " + f + " " + g
                + " " + cuts + ")";
        if (kind < 12) {
            boxes(call, x, m, kind, s, a, b);
        } else if (kind < 22) {
            acts(call, x, m, kind, s, a, b);
        } else if (kind < 29) {
            formulas(call, x, m, kind, s, a, b, f, g);
        } else {
            zeros(call, x, m, kind, s, a, f, cuts);
            if (kind == 40) {
                int most = next(20) == 0 ? 3 : next(3);
                compare(call, () -> x.pairs(f, g, a, b, most), () -> m.pairs(f, g, a, b, most));
            }
        }
    }

    private static void boxes(String call, Boxedvalue x, Model m, int kind, int s, int a, int b) {
        switch (kind) {
            case 0:
                int digits = next(20) == 0 ? next(2) * 12 - 1 : next(11);
                compare(call, () -> x.setDigits(digits), () -> m.setDigits(digits));
                compare(call, x::digits, m::digits);
                break;
            case 1:
            case 2:
            case 3:
                long number = longNumber();
                int scale = next(20) == 0 ? next(2) * 20 - 1 : next(next(2) == 0 ? 19 : 4);
                compare(call + " put " + number + " " + scale, () -> bit(x.put(s, number, scale)),
                        () -> bit(m.put(s, number, scale)));
                break;
            case 4:
                compare(call, x::erase, m::erase);
                typeAll(call, x, m, (next(2) == 0 ? "-" : "") + number(next(20) + 1));
                compare(call + " read", () -> bit(x.read(s)), () -> bit(m.read(s)));
                break;
            case 5:
                char which = "peep".charAt(next(4));
                compare(call, () -> bit(x.constant(s, which)), () -> bit(m.constant(s, which)));
                break;
            case 6:
                compare(call + " join", () -> bit(x.join(s, a, b)), () -> bit(m.join(s, a, b)));
                break;
            case 7:
                compare(call + " meet", () -> bit(x.meet(s, a, b)), () -> bit(m.meet(s, a, b)));
                break;
            case 8:
                compare(call + " low", () -> x.low(s), () -> m.low(s));
                compare(call + " high", () -> x.high(a), () -> m.high(a));
                compare(call + " width", () -> x.width(b), () -> m.width(b));
                break;
            case 9:
                compare(call + " isWithin", () -> bit(x.isWithin(a, b)),
                        () -> bit(m.isWithin(a, b)));
                compare(call + " compare", () -> x.compare(a, b), () -> m.compare(a, b));
                compare(call + " sure", () -> x.sure(a), () -> m.sure(a));
                break;
            case 10:
                if (next(3) == 0) {
                    compare(call + " undo", x::undo, m::undo);
                }
                break;
            default:
                compare(call + " held", x::held, m::held);
                int place = next(30);
                compare(call + " signAt", () -> x.signAt(place), () -> m.signAt(place));
                break;
        }
    }

    private static void acts(String call, Boxedvalue x, Model m, int kind, int s, int a, int b) {
        switch (kind) {
            case 12:
                compare(call + " add", () -> bit(x.add(s, a, b)), () -> bit(m.add(s, a, b)));
                break;
            case 13:
                compare(call + " sub", () -> bit(x.subtract(s, a, b)),
                        () -> bit(m.subtract(s, a, b)));
                break;
            case 14:
                compare(call + " mul", () -> bit(x.multiply(s, a, b)),
                        () -> bit(m.multiply(s, a, b)));
                break;
            case 15:
                compare(call + " div", () -> bit(x.divide(s, a, b)), () -> bit(m.divide(s, a, b)));
                break;
            case 16:
                int exponent = next(12) - 1;
                compare(call + " power", () -> bit(x.power(s, a, exponent)),
                        () -> bit(m.power(s, a, exponent)));
                break;
            case 17:
                int by = next(20) == 0 ? next(2) * 4 + 1 : next(3) + 2;
                compare(call + " root", () -> bit(x.root(s, a, by)), () -> bit(m.root(s, a, by)));
                break;
            case 21:
                int first = next(4) == 0 ? next(8) - 1 : next(5);
                boolean isSecond = next(2) == 0;
                compare(call + " solve", () -> bit(x.solve(s, first, isSecond)),
                        () -> bit(m.solve(s, first, isSecond)));
                break;
            default:
                char act = "-bela-belz".charAt(next(10));
                compare(call + " apply " + act, () -> bit(x.apply(s, a, act)),
                        () -> bit(m.apply(s, a, act)));
                break;
        }
    }

    private static void formulas(String call, Boxedvalue x, Model m, int kind, int s, int a, int b,
            int f, int g) {
        switch (kind) {
            case 22:
            case 23:
                String text = text();
                compare(call, x::erase, m::erase);
                typeAll(call, x, m, text);
                if (next(12) == 0) {
                    compare(call + " read " + text, () -> bit(x.read(s)), () -> bit(m.read(s)));
                } else {
                    compare(call + " define " + text, () -> x.define(f), () -> m.define(f));
                }
                break;
            case 24:
                compare(call + " hasY", () -> bit(x.hasY(f)), () -> bit(m.hasY(f)));
                break;
            case 25:
            case 26:
                compare(call + " value", () -> bit(x.value(s, f, a, b)),
                        () -> bit(m.value(s, f, a, b)));
                break;
            case 27:
                compare(call + " slope", () -> bit(x.slope(s, f, a, b)),
                        () -> bit(m.slope(s, f, a, b)));
                break;
            default:
                compare(call + " decide", () -> x.decide(f, g, a), () -> m.decide(f, g, a));
                if (next(10) == 0) {
                    compare(call + " isSound", () -> bit(x.isSound()), () -> bit(m.isSound()));
                }
                break;
        }
    }

    private static void zeros(String call, Boxedvalue x, Model m, int kind, int s, int a, int f,
            int cuts) {
        switch (kind) {
            case 29:
            case 30:
                compare(call + " zeros", () -> x.zeros(f, a, cuts), () -> m.zeros(f, a, cuts));
                for (int i = -1; i < 9; i++) {
                    int index = i;
                    compare(call + " kind", () -> x.pieceKind(index), () -> m.pieceKind(index));
                }
                break;
            case 31:
                int index = next(10) - 1;
                compare(call + " piece", () -> bit(x.piece(s, index)), () -> bit(m.piece(s, index)));
                break;
            case 32:
                compare(call + " narrow", () -> bit(x.narrow(s, f, a)),
                        () -> bit(m.narrow(s, f, a)));
                break;
            case 33:
                compare(call + " least", () -> bit(x.least(s, f, a, cuts)),
                        () -> bit(m.least(s, f, a, cuts)));
                break;
            case 34:
                compare(call + " greatest", () -> bit(x.greatest(s, f, a, cuts)),
                        () -> bit(m.greatest(s, f, a, cuts)));
                break;
            case 35:
                compare(call + " area", () -> bit(x.area(s, f, a, cuts)),
                        () -> bit(m.area(s, f, a, cuts)));
                break;
            case 36:
            case 37:
                int step = next(20) == 0 ? next(2) * 1001 : 1 + next(next(2) == 0 ? 1000 : 30);
                compare(call + " move " + step, () -> bit(x.move(s, f, a, step)),
                        () -> bit(m.move(s, f, a, step)));
                break;
            default:
                break;
        }
    }

    public static void main(String[] args) {
        int runs = args.length > 0 ? Integer.parseInt(args[0]) : 300;
        long from = args.length > 1 ? Long.parseLong(args[1]) : 1;
        for (int i = 0; i < runs; i++) {
            run(from + i, 500);
        }
        System.out.println("ModelTest: " + (wrong == 0 ? "all answers are as due"
                : wrong + " answers are not as due"));
        if (wrong != 0) {
            System.exit(1);
        }
    }
}
