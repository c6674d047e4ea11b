import java.util.ArrayList;
import java.util.List;
import java.util.NoSuchElementException;

/**
 * The calls that the document refuses. Each parameter of each method is tried with each kind of
 * wrong value, alone and together with wrong ones of the others: what is documented first is
 * thrown, and nothing at all is changed, which a second object that got no such call tells.
 */
public final class RefusedTest extends Bench {
    private static final Class<?> INDEX = IndexOutOfBoundsException.class;
    private static final Class<?> ARGUMENT = IllegalArgumentException.class;
    private static final Class<?> NONE = NoSuchElementException.class;
    private static final Class<?> UNSUPPORTED = UnsupportedOperationException.class;
    private static final Class<?> REFUSED = ArithmeticException.class;
    private static final Class<?> STATE = IllegalStateException.class;
    /** In the order in which the document names them, for every method. */
    private static final List<Class<?>> ORDER = List.of(INDEX, ARGUMENT, NONE, UNSUPPORTED);

    private static final int EMPTY_SHELF = 7;
    private static final int GREAT = 9;
    private static final int WITH_Y = 1;
    private static final int BROKEN = 2;
    private static final int UNDEFINED = 3;

    private RefusedTest() { }

    private interface Made {
        Object of(Boxedvalue x, int[] a);
    }

    private record Wrong(int value, Class<?> due) { }

    /**
     * The slots of a method: s a shelf that is filled, h one that must hold a box, f a formula, o a
     * formula without y, d a formula's number, n a number from the least to the most one, p a
     * piece's number, i the first of six shelves, c a sign that the call knows.
     */
    private record Method(String name, String slots, int[] fine, int least, int most, Made made) { }

    /** Twelve calls are kept, two forgotten; one formula has an y, one breaks, one is undefined. */
    private static Boxedvalue base(String text) {
        Boxedvalue x = new Boxedvalue();
        define(x, 0, "x^2-2");
        define(x, WITH_Y, "x+y");
        // refused from 1 to 2; too great from 0 to 4
        define(x, BROKEN, "e(9*x)+1/(x-2)");
        String[][] boxes = {{"1", "2"}, {"-1", "3"}, {"2", "2"}, {"0", "0"},
            {"3", "5"}, {"-2", "-1"}, {"0", "4"}};
        for (int i = 0; i < boxes.length; i++) {
            hold(x, i, boxes[i][0], boxes[i][1]);
        }
        x.zeros(0, 0, 0);
        x.put(GREAT, 999_999_999_999L, 0);
        x.setDigits(4);
        return type(x, text);
    }

    /** All that an object is, told by all that can be asked; it is used up. */
    private static String whole(Boxedvalue x) {
        StringBuilder all = new StringBuilder();
        all.append(x.digits()).append(' ').append(x.held()).append(' ').append(x.checksum());
        all.append(' ').append(x.erase());
        for (int i = 0; i < 14; i++) {
            all.append(' ').append(answer(x::undo)).append(' ').append(x.checksum());
        }
        for (int i = 0; i < 9; i++) {
            int index = i;
            all.append(' ').append(answer(() -> x.pieceKind(index)));
            x.put(0, 0, 0);
            all.append(' ').append(answer(() -> x.piece(0, index))).append(' ').append(box(x, 0));
        }
        for (int i = 0; i < 4; i++) {
            int index = i;
            all.append(' ').append(answer(() -> x.hasY(index)));
            for (int number = 1; number <= 5; number += 4) {
                x.put(0, number, 0);
                x.put(1, 0, 0);
                all.append(' ').append(answer(() -> x.value(1, index, 0, 0)));
                all.append(' ').append(box(x, 1));
            }
        }
        return all.toString();
    }

    private static final Method[] METHODS = {
        new Method("setDigits", "n", new int[] {4}, 0, 10, (x, a) -> x.setDigits(a[0])),
        new Method("type", "n", new int[] {'a'}, 32, 126, (x, a) -> x.type((char) a[0])),
        new Method("signAt", "n", new int[] {0}, 0, 1, (x, a) -> x.signAt(a[0])),
        new Method("put", "sn", new int[] {0, 0}, 0, 18, (x, a) -> x.put(a[0], 5L, a[1])),
        new Method("read", "s", new int[] {0}, 0, 0, (x, a) -> x.read(a[0])),
        new Method("constant", "sc", new int[] {0, 'p'}, 0, 0,
                (x, a) -> x.constant(a[0], (char) a[1])),
        new Method("join", "shh", new int[] {0, 1, 2}, 0, 0, (x, a) -> x.join(a[0], a[1], a[2])),
        new Method("meet", "shh", new int[] {0, 1, 2}, 0, 0, (x, a) -> x.meet(a[0], a[1], a[2])),
        new Method("low", "h", new int[] {0}, 0, 0, (x, a) -> x.low(a[0])),
        new Method("high", "h", new int[] {0}, 0, 0, (x, a) -> x.high(a[0])),
        new Method("width", "h", new int[] {0}, 0, 0, (x, a) -> x.width(a[0])),
        new Method("isWithin", "hh", new int[] {0, 1}, 0, 0, (x, a) -> x.isWithin(a[0], a[1])),
        new Method("compare", "hh", new int[] {0, 1}, 0, 0, (x, a) -> x.compare(a[0], a[1])),
        new Method("sure", "h", new int[] {0}, 0, 0, (x, a) -> x.sure(a[0])),
        new Method("add", "shh", new int[] {0, 1, 2}, 0, 0, (x, a) -> x.add(a[0], a[1], a[2])),
        new Method("subtract", "shh", new int[] {0, 1, 2}, 0, 0,
                (x, a) -> x.subtract(a[0], a[1], a[2])),
        new Method("multiply", "shh", new int[] {0, 1, 2}, 0, 0,
                (x, a) -> x.multiply(a[0], a[1], a[2])),
        new Method("divide", "shh", new int[] {0, 1, 2}, 0, 0,
                (x, a) -> x.divide(a[0], a[1], a[2])),
        new Method("power", "shn", new int[] {0, 1, 2}, 0, 9, (x, a) -> x.power(a[0], a[1], a[2])),
        new Method("root", "shn", new int[] {0, 2, 2}, 2, 4, (x, a) -> x.root(a[0], a[1], a[2])),
        new Method("apply", "shc", new int[] {0, 2, 'e'}, 0, 0,
                (x, a) -> x.apply(a[0], a[1], (char) a[2])),
        new Method("solve", "si", new int[] {0, 0}, 0, 0, (x, a) -> x.solve(a[0], a[1], true)),
        new Method("define", "d", new int[] {0}, 0, 0, (x, a) -> x.define(a[0])),
        new Method("hasY", "f", new int[] {0}, 0, 0, (x, a) -> x.hasY(a[0])),
        new Method("value", "sfhh", new int[] {0, 0, 1, 2}, 0, 0,
                (x, a) -> x.value(a[0], a[1], a[2], a[3])),
        new Method("slope", "sfhh", new int[] {0, 0, 1, 2}, 0, 0,
                (x, a) -> x.slope(a[0], a[1], a[2], a[3])),
        new Method("decide", "ffh", new int[] {0, 1, 2}, 0, 0,
                (x, a) -> x.decide(a[0], a[1], a[2])),
        new Method("zeros", "ohn", new int[] {0, 0, 0}, 0, 3, (x, a) -> x.zeros(a[0], a[1], a[2])),
        new Method("pieceKind", "p", new int[] {0}, 0, 0, (x, a) -> x.pieceKind(a[0])),
        new Method("piece", "sp", new int[] {0, 0}, 0, 0, (x, a) -> x.piece(a[0], a[1])),
        new Method("narrow", "soh", new int[] {0, 0, 0}, 0, 0,
                (x, a) -> x.narrow(a[0], a[1], a[2])),
        new Method("pairs", "ffhhn", new int[] {0, 1, 0, 2, 1}, 0, 2,
                (x, a) -> x.pairs(a[0], a[1], a[2], a[3], a[4])),
        new Method("least", "sohn", new int[] {0, 0, 1, 1}, 0, 3,
                (x, a) -> x.least(a[0], a[1], a[2], a[3])),
        new Method("greatest", "sohn", new int[] {0, 0, 1, 1}, 0, 3,
                (x, a) -> x.greatest(a[0], a[1], a[2], a[3])),
        new Method("area", "sohn", new int[] {0, 0, 1, 1}, 0, 3,
                (x, a) -> x.area(a[0], a[1], a[2], a[3])),
        new Method("move", "sohn", new int[] {0, 0, 2, 1}, 1, 1000,
                (x, a) -> x.move(a[0], a[1], a[2], a[3])),
    };

    private static void add(List<Wrong> all, Class<?> due, int... values) {
        for (int value : values) {
            all.add(new Wrong(value, due));
        }
    }

    private static List<Wrong> wrongOnes(Method method, char slot) {
        List<Wrong> all = new ArrayList<>();
        switch (slot) {
            case 's':
                add(all, INDEX, -1, 10, Integer.MIN_VALUE, Integer.MAX_VALUE);
                break;
            case 'h':
                add(all, INDEX, -1, 10, Integer.MIN_VALUE, Integer.MAX_VALUE);
                add(all, NONE, EMPTY_SHELF);
                break;
            case 'd':
                add(all, INDEX, -1, 4, Integer.MIN_VALUE, Integer.MAX_VALUE);
                break;
            case 'f':
            case 'o':
                add(all, INDEX, -1, 4, Integer.MIN_VALUE, Integer.MAX_VALUE);
                add(all, NONE, UNDEFINED);
                if (slot == 'o') {
                    add(all, UNSUPPORTED, WITH_Y);
                }
                break;
            case 'n':
                add(all, ARGUMENT, method.least - 1, method.most + 1);
                if (!method.name.equals("type")) {
                    add(all, ARGUMENT, Integer.MIN_VALUE, Integer.MAX_VALUE);
                }
                break;
            case 'c':
                add(all, ARGUMENT, 0, ' ', '~', 'E', 'P', '+', '^', 'r', 'p' + 256, 65535);
                break;
            case 'p':
                add(all, NONE, -1, 1, 8, Integer.MIN_VALUE, Integer.MAX_VALUE);
                break;
            default:
                add(all, INDEX, -1, 5, 9, 10, Integer.MIN_VALUE, Integer.MAX_VALUE);
                add(all, NONE, 2, 3, 4);
                break;
        }
        return all;
    }

    /** Every choice of fine and wrong values: counted through like the digits of a number. */
    private static void tryAll(Method method) {
        about(method.name);
        Boxedvalue x = base("12");
        List<List<Wrong>> wrong = new ArrayList<>();
        int choices = 1;
        for (char slot : method.slots.toCharArray()) {
            wrong.add(wrongOnes(method, slot));
            choices *= wrong.get(wrong.size() - 1).size() + 1;
        }
        for (int choice = 1; choice < choices; choice++) {
            int[] values = method.fine.clone();
            int first = ORDER.size();
            int left = choice;
            for (int i = 0; i < values.length; i++) {
                int which = left % (wrong.get(i).size() + 1);
                left /= wrong.get(i).size() + 1;
                if (which > 0) {
                    Wrong one = wrong.get(i).get(which - 1);
                    values[i] = one.value;
                    first = Math.min(first, ORDER.indexOf(one.due));
                }
            }
            due(answer(() -> method.made.of(x, values)), ORDER.get(first),
                    java.util.Arrays.toString(values));
        }
        due(whole(x), whole(base("12")), "all that the object is behind them");
        for (int value : new int[] {method.least, method.most}) {
            int place = method.slots.indexOf('n');
            if (place >= 0) {
                int[] values = method.fine.clone();
                values[place] = value;
                Boxedvalue y = base("");
                define(y, 0, "2-x");
                type(y, "12");
                due(answer(() -> method.made.of(y, values)) instanceof Class, false,
                        "whether " + value + " is refused");
            }
        }
        due(answer(() -> method.made.of(base("12"), method.fine)) instanceof Class, false,
                "whether what is fine is refused");
    }

    private static void one(String what, Class<?> due, String text, Made made) {
        about("a refused call");
        Boxedvalue x = base(text);
        due(answer(() -> made.of(x, null)), due, what);
        due(whole(x), whole(base(text)), "all that the object is behind " + what);
    }

    private static void refusedOnes() {
        one("type behind 60 signs", STATE, "a".repeat(60), (x, a) -> x.type('a'));
        one("type of no sign behind 60", ARGUMENT, "a".repeat(60), (x, a) -> x.type((char) 127));
        one("signAt of an empty text", ARGUMENT, "", (x, a) -> x.signAt(0));
        one("put too great", STATE, "1", (x, a) -> x.put(0, 1_000_000_000_000L, 0));
        one("put too great by a wrong scale", ARGUMENT, "1", (x, a) -> x.put(0, Long.MAX_VALUE, 19));
        one("put too great on no shelf", INDEX, "1", (x, a) -> x.put(10, Long.MAX_VALUE, 19));
        one("read of no number", ARGUMENT, "x", (x, a) -> x.read(0));
        one("read of an empty text", ARGUMENT, "", (x, a) -> x.read(0));
        one("read of no number onto no shelf", INDEX, "x", (x, a) -> x.read(-1));
        one("read too great", STATE, "-1000000000000", (x, a) -> x.read(0));
        one("read too great onto no shelf", INDEX, "-1000000000000", (x, a) -> x.read(10));
        one("meet of boxes apart", NONE, "1", (x, a) -> x.meet(0, 0, 5));
        one("add too great", STATE, "1", (x, a) -> x.add(0, GREAT, GREAT));
        one("subtract too great", STATE, "1", (x, a) -> x.subtract(0, 5, GREAT));
        one("multiply too great", STATE, "1", (x, a) -> x.multiply(0, GREAT, 2));
        one("divide by 0", REFUSED, "1", (x, a) -> x.divide(0, GREAT, 3));
        one("divide by what holds 0", REFUSED, "1", (x, a) -> x.divide(0, GREAT, 1));
        one("a power too great", STATE, "1", (x, a) -> x.power(0, GREAT, 2));
        one("a root of what is below 0", REFUSED, "1", (x, a) -> x.root(0, 1, 2));
        one("e to a power too great", STATE, "1", (x, a) -> x.apply(0, GREAT, 'e'));
        one("the logarithm of 0", REFUSED, "1", (x, a) -> x.apply(0, 3, 'l'));
        one("the logarithm of what is below 0", REFUSED, "1", (x, a) -> x.apply(0, 5, 'l'));
        one("value refused", REFUSED, "1", (x, a) -> x.value(0, BROKEN, 0, 0));
        one("value too great", STATE, "1", (x, a) -> x.value(0, BROKEN, 6, 0));
        one("slope refused", REFUSED, "1", (x, a) -> x.slope(0, BROKEN, 0, 0));
        one("slope too great", STATE, "1", (x, a) -> x.slope(0, BROKEN, 6, 0));
        one("narrow refused", REFUSED, "1", (x, a) -> x.narrow(0, 0, 1));
        one("narrow too great", STATE, "1", (x, a) -> x.narrow(0, 0, GREAT));
        one("narrow to nothing", STATE, "1", (x, a) -> x.narrow(0, 0, 2));
        one("least refused", REFUSED, "1", (x, a) -> x.least(0, BROKEN, 0, 3));
        one("least too great", STATE, "1", (x, a) -> x.least(0, BROKEN, 6, 0));
        one("greatest refused", REFUSED, "1", (x, a) -> x.greatest(0, BROKEN, 0, 3));
        one("greatest too great", STATE, "1", (x, a) -> x.greatest(0, BROKEN, 6, 0));
        one("area refused", REFUSED, "1", (x, a) -> x.area(0, BROKEN, 0, 3));
        one("area too great", STATE, "1", (x, a) -> x.area(0, BROKEN, 6, 0));
        one("move refused", REFUSED, "1", (x, a) -> x.move(0, BROKEN, 0, 1));
        one("move too great", STATE, "1", (x, a) -> x.move(0, BROKEN, 6, 1));
        one("move with no tube", STATE, "1", (x, a) -> x.move(0, 0, 6, 1000));
        about("a refused undo");
        Boxedvalue x = new Boxedvalue();
        due(answer(x::undo), NONE, "undo of a new object");
        due(whole(x), whole(new Boxedvalue()), "all that the object is behind it");
        solving("too great", STATE, "999999999999", "2");
        solving("refused", REFUSED, "1", "0");
        solving("too great ahead of what is refused", STATE, "999999999999", "0");
    }

    /** For a * u + v = 2 and d * u = 3 the divisor is a * 0 - 1 * d. */
    private static void solving(String what, Class<?> due, String a, String d) {
        about("solve, " + what);
        String[] boxes = {a, a, "1", "1", "2", "2", d, d, "0", "0", "3", "3"};
        Boxedvalue x = with(boxes);
        due(answer(() -> x.solve(0, 0, true)), due, "v");
        due(whole(x), whole(with(boxes)), "all that the object is behind it");
    }

    public static void main(String[] args) {
        for (Method method : METHODS) {
            tryAll(method);
        }
        refusedOnes();
        tell("RefusedTest");
    }
}
