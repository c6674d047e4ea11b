import java.math.BigDecimal;
import java.math.BigInteger;
import java.math.RoundingMode;
import java.util.NoSuchElementException;

/**
 * Sentence by sentence, in the document's order: what a sentence says of a boundary has a check of
 * its own. What is refused because of an argument stands in RefusedTest.
 */
public final class EdgesTest extends Bench {
    private static final Class<?> NONE = NoSuchElementException.class;
    private static final Class<?> ARGUMENT = IllegalArgumentException.class;
    private static final Class<?> STATE = IllegalStateException.class;
    private static final Class<?> REFUSED = ArithmeticException.class;
    private static final String MOST = "999999999999.9999999999";
    private static final String LEAST = "0.0000000001";

    private EdgesTest() { }

    private static Boxedvalue by(int digits, String... bounds) {
        Boxedvalue x = with(bounds);
        x.setDigits(digits);
        return x;
    }

    /** The box that a call lets shelf 7 become, or what it throws. */
    private static String made(Boxedvalue x, Call call) {
        Object got = answer(call);
        if (got instanceof Class<?> thrown) {
            return thrown.toString();
        }
        String box = box(x, 7);
        due(got, low(x, 7).equals(high(x, 7)), "whether the box " + box + " is single");
        return box;
    }

    private static void becomes(Boxedvalue x, Object want, String what, Call call) {
        due(made(x, call), want, what);
    }

    private static BigDecimal number(String text) {
        return new BigDecimal(text);
    }

    private static BigDecimal lowOf(Boxedvalue x, int shelf) {
        return number(low(x, shelf));
    }

    private static BigDecimal highOf(Boxedvalue x, int shelf) {
        return number(high(x, shelf));
    }

    // ---- the theorem

    private static final String[] FORMULAS = {
        "x^2-2*x+1/3", "p*x-ex", "r(x+3)/7", "l(x+5)*a(x)", "1/(x+9)^3-x/7", "(x-1/3)^9", "e-x^2/3",
        "a(ex)-0.123456789*x", "x/3/7+0.1", "-(x-p)^3", "x^0+x", "x",
    };

    private static void withMoreDigits() {
        about("with more digits the box of a formula never leaves the one with fewer");
        for (String text : FORMULAS) {
            Boxedvalue x = formula(text, "-1.25", "2.3456789012");
            for (int digits = 0; digits <= 10; digits++) {
                x.setDigits(digits);
                x.value(digits % 2 + 1, 0, 0, 0);
                if (digits > 0) {
                    due(x.isWithin(digits % 2 + 1, 2 - digits % 2), true,
                            text + " by " + digits + " digits");
                }
            }
        }
    }

    private static void theTrueValue() {
        about("the true value lies in the told box");
        String[][] boxes = {{"-1.7", "0.3"}, {"0.1", "2.25"}, {"-3", "-0.0000000007"}, {"1.5", "1.5"}};
        for (int digits = 0; digits <= 10; digits += 5) {
            for (String[] one : boxes) {
                for (String[] other : boxes) {
                    Boxedvalue x = by(digits, one[0], one[1], other[0], other[1]);
                    x.add(2, 0, 1);
                    x.subtract(3, 0, 1);
                    x.multiply(4, 0, 1);
                    x.power(5, 0, 3);
                    boolean isDivided = answer(() -> x.divide(6, 0, 1)) instanceof Boolean;
                    for (int i = 0; i <= 4; i++) {
                        BigDecimal p = between(one, i);
                        holds(x, 5, p.pow(3));
                        for (int j = 0; j <= 4; j++) {
                            BigDecimal q = between(other, j);
                            holds(x, 2, p.add(q));
                            holds(x, 3, p.subtract(q));
                            holds(x, 4, p.multiply(q));
                            if (isDivided) {
                                holds(x, 6, p.divide(q, 40, RoundingMode.HALF_EVEN));
                            }
                        }
                    }
                }
            }
        }
    }

    private static BigDecimal between(String[] bounds, int fourths) {
        BigDecimal low = number(bounds[0]);
        return low.add(number(bounds[1]).subtract(low).multiply(BigDecimal.valueOf(fourths * 25L, 2)));
    }

    private static void holds(Boxedvalue x, int shelf, BigDecimal value) {
        boolean isIn = lowOf(x, shelf).compareTo(value) <= 0 && highOf(x, shelf).compareTo(value) >= 0;
        due(isIn, true, "whether shelf " + shelf + " holds " + value);
    }

    private static void zerosAreTrue() {
        about("a piece with just one zero holds just one, and what is in no piece holds none");
        String[] texts = {"x*(x-1)*(x+1)", "(x-1/2)*(x-3/2)", "x^2-1/4", "(x-1)^3", "x^9-x", "x*x*x*x-1"};
        String[][] zeros = {{"-1", "0", "1"}, {"0.5", "1.5"}, {"-0.5", "0.5"}, {"1"}, {"-1", "0", "1"},
            {"-1", "1"}};
        for (int i = 0; i < texts.length; i++) {
            for (int cuts = 0; cuts <= 3; cuts++) {
                for (int digits = 0; digits <= 10; digits += 2) {
                    Boxedvalue x = formula(texts[i], "-2", "2.75");
                    x.setDigits(digits);
                    int count = x.zeros(0, 0, cuts);
                    int[] found = new int[zeros[i].length];
                    for (int piece = 0; piece < count; piece++) {
                        x.piece(7, piece);
                        int held = 0;
                        for (int zero = 0; zero < found.length; zero++) {
                            BigDecimal value = number(zeros[i][zero]);
                            if (lowOf(x, 7).compareTo(value) <= 0 && highOf(x, 7).compareTo(value) >= 0) {
                                held++;
                                found[zero]++;
                            }
                        }
                        due(x.pieceKind(piece) == '?' || held == 1, true,
                                "piece " + piece + " of " + texts[i] + " by " + cuts + " cuts");
                    }
                    for (int zero = 0; zero < found.length; zero++) {
                        due(found[zero] > 0, true, "whether " + zeros[i][zero] + " is in a piece");
                    }
                }
            }
        }
    }

    private static void tubesAreTrue() {
        about("a tube that is found holds a whole motion of the step from each number of the box");
        String[] texts = {"x", "0-x", "1+x^2", "1/x", "2-x"};
        for (int i = 0; i < texts.length; i++) {
            for (int step = 1; step <= 101; step += 50) {
                Boxedvalue x = formula(texts[i], "0.5", "0.6");
                x.move(7, 0, 0, step);
                double h = step / 1000.0;
                for (double start = 0.5; start <= 0.6; start += 0.025) {
                    double[] ends = {start * Math.exp(h), start * Math.exp(-h),
                        Math.tan(Math.atan(start) + h), Math.sqrt(start * start + 2 * h),
                        2 + (start - 2) * Math.exp(-h)};
                    double low = lowOf(x, 7).doubleValue();
                    double high = highOf(x, 7).doubleValue();
                    due(low <= ends[i] + 1e-12 && ends[i] - 1e-12 <= high, true,
                            texts[i] + " from " + start + " by " + step);
                }
            }
        }
    }

    // ---- boxes, digits

    private static void boxes() {
        about("ten shelves hold a box each, or none, as at first");
        Boxedvalue x = new Boxedvalue();
        for (int shelf = 0; shelf < 10; shelf++) {
            int one = shelf;
            fails(x, NONE, () -> x.low(one), "low of shelf " + shelf);
        }
        for (int shelf = 0; shelf < 10; shelf++) {
            due(x.held(), shelf, "held");
            x.put(shelf, shelf + 1, 0);
        }
        due(x.held(), 10, "held");
        for (int shelf = 0; shelf < 10; shelf++) {
            due(low(x, shelf), shelf + 1, "low of shelf " + shelf);
        }
        about("the bounds are, without their signs, below 1000000000000");
        Boxedvalue y = with("-" + MOST, MOST);
        due(box(y, 0), "-" + MOST + " " + MOST, "the widest box");
        about("a box is single if both bounds are the same");
        Boxedvalue z = by(10, "0", LEAST, LEAST, LEAST, "-" + LEAST, "0");
        becomes(z, "0 " + LEAST, "a box of the least width", () -> z.join(7, 0, 0));
        becomes(z, LEAST + " " + LEAST, "a single box", () -> z.join(7, 1, 1));
        about("it holds a number that is in it, both bounds with it");
        due(z.isWithin(1, 0), true, "isWithin at the high bound");
        due(z.isWithin(1, 2), false, "isWithin one beyond the high bound");
        due(z.isWithin(0, 1), false, "isWithin a narrower one");
        due(z.isWithin(0, 0), true, "isWithin itself");
    }

    private static void digits() {
        about("there are 0 to 10 digits, 6 at first");
        Boxedvalue x = new Boxedvalue();
        due(x.digits(), 6, "digits");
        for (int digits = 0; digits <= 10; digits++) {
            due(x.setDigits(digits), digits == 0 ? 6 : digits - 1, "setDigits");
            due(x.digits(), digits, "digits");
        }
        about("to tell a box");
        long[] numbers = {0, 1, -1, 5, -5, 9_999_999_999L, -9_999_999_999L, 123_456_789_012_345_678L,
            -123_456_789_012_345_678L, 100_000_000_000_000_000L, -100_000_000_000_000_000L,
            999_999_999_999_999_999L, -999_999_999_999_999_999L, Long.MAX_VALUE, Long.MIN_VALUE};
        for (int digits = 0; digits <= 10; digits++) {
            x.setDigits(digits);
            for (long number : numbers) {
                for (int scale = 7; scale <= 18; scale++) {
                    BigDecimal value = BigDecimal.valueOf(number, scale);
                    int by = scale;
                    becomes(x, plain(value.setScale(digits, RoundingMode.FLOOR)) + " "
                            + plain(value.setScale(digits, RoundingMode.CEILING)),
                            value + " by " + digits + " digits", () -> x.put(7, number, by));
                }
            }
        }
        about("boxes that are there do not change as the digits do");
        Boxedvalue y = with("-0.0000000003", "1.0000000007", MOST, MOST);
        for (int digits = 0; digits <= 10; digits++) {
            y.setDigits(digits);
            due(box(y, 0) + " " + box(y, 1), "-0.0000000003 1.0000000007 " + MOST + " " + MOST,
                    "the boxes by " + digits + " digits");
        }
    }

    private static String plain(BigDecimal number) {
        return number.signum() == 0 ? "0" : number.stripTrailingZeros().toPlainString();
    }

    private static void constants() {
        about("constant: pi and e by all numbers of digits");
        Boxedvalue x = new Boxedvalue();
        BigDecimal[] values = {number("3.14159265358979323846"), number("2.71828182845904523536")};
        for (int digits = 0; digits <= 10; digits++) {
            x.setDigits(digits);
            for (int i = 0; i < 2; i++) {
                char which = "pe".charAt(i);
                becomes(x, plain(values[i].setScale(digits, RoundingMode.FLOOR)) + " "
                        + plain(values[i].setScale(digits, RoundingMode.CEILING)),
                        which + " by " + digits + " digits", () -> x.constant(7, which));
            }
        }
    }

    // ---- what acts make, too great, refused

    private static void acts() {
        about("the power by 0 is always 1, the root is not below 0");
        Boxedvalue x = by(6, "0", "0", "-3", "2", "-" + MOST, MOST, "1", "1", "16", "16", "81", "81");
        for (int shelf = 0; shelf < 4; shelf++) {
            int one = shelf;
            becomes(x, "1 1", "the power by 0 of shelf " + shelf, () -> x.power(7, one, 0));
        }
        for (int by = 2; by <= 4; by++) {
            int one = by;
            becomes(x, "0 0", "a root of 0", () -> x.root(7, 0, one));
            becomes(x, "1 1", "a root of 1", () -> x.root(7, 3, one));
        }
        becomes(x, "2 2", "the root by 4", () -> x.root(7, 4, 4));
        becomes(x, "4 4", "the root by 2", () -> x.root(7, 4, 2));
        becomes(x, "3 3", "the root by 4", () -> x.root(7, 5, 4));
        becomes(x, "1 1", "e to the power of 0", () -> x.apply(7, 0, 'e'));
        becomes(x, "0 0", "the logarithm of 1", () -> x.apply(7, 3, 'l'));
        becomes(x, "0 0", "the arc tangent of 0", () -> x.apply(7, 0, 'a'));
        becomes(x, "0 0", "the negative of 0", () -> x.apply(7, 0, '-'));
        becomes(x, "0 3", "without the sign, across 0", () -> x.apply(7, 1, 'b'));
        becomes(x, "0 9", "the square across 0", () -> x.power(7, 1, 2));
        becomes(x, "-27 8", "the cube across 0", () -> x.power(7, 1, 3));
        becomes(x, "-6 9", "a product with itself", () -> x.multiply(7, 1, 1));
        becomes(x, "-5 5", "a difference with itself", () -> x.subtract(7, 1, 1));
        becomes(x, "-6 4", "a sum with itself", () -> x.add(7, 1, 1));
        x.setDigits(10);
        becomes(x, "0 " + MOST, "all numbers without their signs", () -> x.apply(7, 2, 'b'));
        hold(x, 6, LEAST, MOST);
        becomes(x, "-23.02585093 27.631021116", "the logarithm of all numbers above 0",
                () -> x.apply(7, 6, 'l'));
        becomes(x, "-1.5707963268 1.5707963268", "the arc tangent of all numbers",
                () -> x.apply(7, 2, 'a'));
        becomes(x, "0.00001 1000000", "the root by 2 of all numbers above 0", () -> x.root(7, 6, 2));
        hold(x, 6, "-" + MOST, "-" + MOST);
        becomes(x, "0 " + LEAST, "e to the lowest power", () -> x.apply(7, 6, 'e'));
    }

    private static void tooGreat() {
        about("too great is a bound that is not below 1000000000000");
        Boxedvalue x = by(10, MOST, MOST, LEAST, LEAST, "-" + MOST, "-" + MOST, "0", "0", "1", "1");
        becomes(x, MOST + " " + MOST, "the sum with 0", () -> x.add(7, 0, 3));
        becomes(x, STATE, "the sum with the least", () -> x.add(7, 0, 1));
        becomes(x, "-" + MOST + " -" + MOST, "the difference with 0", () -> x.subtract(7, 2, 3));
        becomes(x, STATE, "the difference below 0", () -> x.subtract(7, 2, 1));
        becomes(x, "0 0", "the sum of the least and the greatest", () -> x.add(7, 0, 2));
        becomes(x, "-" + MOST + " -" + MOST, "the product with 1", () -> x.multiply(7, 2, 4));
        becomes(x, MOST + " " + MOST, "the power by 1", () -> x.power(7, 0, 1));
        becomes(x, "99.9999999999 100", "the product with the least", () -> x.multiply(7, 0, 1));
        x.setDigits(9);
        becomes(x, STATE, "the sum with 0 as it is told", () -> x.add(7, 0, 3));
        becomes(x, STATE, "the difference from 0 as it is told", () -> x.subtract(7, 3, 0));
        becomes(x, STATE, "the product with 1 as it is told", () -> x.multiply(7, 0, 4));
        becomes(x, STATE, "the quotient by 1 as it is told", () -> x.divide(7, 2, 4));
        becomes(x, STATE, "the power by 1 as it is told", () -> x.power(7, 2, 1));
        becomes(x, STATE, "the negative as it is told", () -> x.apply(7, 0, '-'));
        becomes(x, STATE, "the number without its sign as it is told", () -> x.apply(7, 2, 'b'));
        becomes(x, MOST + " " + MOST, "join as it is", () -> x.join(7, 0, 0));
        becomes(x, "999999.999999999 1000000", "the root as it is told", () -> x.root(7, 0, 2));
        x.setDigits(0);
        becomes(x, "999999 1000000", "the root as it is told", () -> x.root(7, 0, 2));
        greatProducts();
    }

    private static void greatProducts() {
        Boxedvalue x = by(10, "1000000", "1000000", "999999.9999999999", "999999.9999999999",
                "-1000000", "-1000000", LEAST, LEAST, "99.9999999999", "99.9999999999", "100", "100");
        becomes(x, STATE, "a product of the limit", () -> x.multiply(7, 0, 0));
        becomes(x, STATE, "a product of the limit below 0", () -> x.multiply(7, 0, 2));
        becomes(x, "999999999999.9999 999999999999.9999", "a product below the limit",
                () -> x.multiply(7, 0, 1));
        becomes(x, "-999999999999.9999 -999999999999.9999", "a product above it below 0",
                () -> x.multiply(7, 2, 1));
        becomes(x, STATE, "a quotient of the limit", () -> x.divide(7, 5, 3));
        becomes(x, "999999999999 999999999999", "a quotient below the limit", () -> x.divide(7, 4, 3));
        becomes(x, STATE, "a power of the limit", () -> x.power(7, 2, 2));
        becomes(x, STATE, "a power by 9", () -> x.power(7, 2, 9));
        hold(x, 6, "-10000", "-10000");
        becomes(x, STATE, "an odd power of the limit below 0", () -> x.power(7, 6, 3));
        becomes(x, "100000000 100000000", "an even power of it", () -> x.power(7, 6, 2));
        hold(x, 6, "-9999", "9999");
        becomes(x, "-999700029999 999700029999", "an odd power below the limit",
                () -> x.power(7, 6, 3));
        hold(x, 6, "21.5443469003", "21.5443469003");
        becomes(x, "999999999992.1308843048 999999999992.1308843049", "the ninth power below the limit",
                () -> x.power(7, 6, 9));
        hold(x, 6, "21.5443469004", "21.5443469004");
        becomes(x, STATE, "the ninth power beyond it", () -> x.power(7, 6, 9));
        hold(x, 6, "27.6310211159", "27.6310211159");
        becomes(x, "999999999971.4517917845 999999999971.4517917846", "e to a power below the limit",
                () -> x.apply(7, 6, 'e'));
        hold(x, 6, "27.631021116", "27.631021116");
        becomes(x, STATE, "e to a power beyond it", () -> x.apply(7, 6, 'e'));
        hold(x, 6, "-" + MOST, "27.631021116");
        becomes(x, STATE, "e to powers of which one is beyond it", () -> x.apply(7, 6, 'e'));
        hold(x, 6, "0", MOST);
        becomes(x, STATE, "e to the greatest power", () -> x.apply(7, 6, 'e'));
    }

    private static void refused() {
        about("a quotient is refused if the box by which is divided holds 0");
        Boxedvalue x = by(6, "0", "1", "-1", "0", "0", "0", "-1", "1", LEAST, "1", "-1", "-" + LEAST);
        for (int shelf = 0; shelf < 4; shelf++) {
            int one = shelf;
            becomes(x, REFUSED, "1 by shelf " + shelf, () -> x.divide(7, 4, one));
            becomes(x, REFUSED, "0 by shelf " + shelf, () -> x.divide(7, 2, one));
        }
        becomes(x, "0 10000000000", "the quotient by numbers above 0", () -> x.divide(7, 0, 4));
        becomes(x, "-10000000000 0", "the quotient by numbers below 0", () -> x.divide(7, 0, 5));
        becomes(x, "0 0", "the quotient of 0", () -> x.divide(7, 2, 5));
        about("a root is refused if the box holds a number below 0");
        for (int by = 2; by <= 4; by++) {
            int one = by;
            becomes(x, "0 1", "a root from 0 on", () -> x.root(7, 0, one));
            becomes(x, REFUSED, "a root from below 0 up to 0", () -> x.root(7, 1, one));
            becomes(x, REFUSED, "a root across 0", () -> x.root(7, 3, one));
            becomes(x, REFUSED, "a root of numbers below 0", () -> x.root(7, 5, one));
        }
        about("a logarithm is refused if the box holds a number that is not above 0");
        becomes(x, "-23.025851 0", "the logarithm of numbers above 0", () -> x.apply(7, 4, 'l'));
        for (int shelf : new int[] {0, 1, 2, 3, 5}) {
            becomes(x, REFUSED, "the logarithm of shelf " + shelf, () -> x.apply(7, shelf, 'l'));
        }
    }

    private static void solving() {
        about("solve: one of the six holds none");
        for (int none = 0; none < 6; none++) {
            for (int first = 0; first <= 4; first++) {
                Boxedvalue x = new Boxedvalue();
                for (int i = 0; i < 6; i++) {
                    if (i != none) {
                        x.put(first + i, i * i + 1, 0);
                    }
                }
                int from = first;
                fails(x, NONE, () -> x.solve(0, from, false), "solve without number " + none);
                x.put(first + none, none * none + 1, 0);
                // 1 u + 2 v = 5, 10 u + 17 v = 26: u = -11, v = 8
                becomes(x, "-11 -11", "u", () -> x.solve(7, from, false));
                x.undo();
                becomes(x, "8 8", "v", () -> x.solve(7, from, true));
                x.undo();
                for (int shelf = 0; shelf < 10; shelf++) {
                    due(x.solve(shelf, from, true), true, "solve onto shelf " + shelf);
                    due(box(x, shelf), "8 8", "its box");
                    x.undo();
                }
            }
        }
    }

    // ---- the text

    private static void texts() {
        about("at most 60 signs, of the codes 32 to 126");
        Boxedvalue x = new Boxedvalue();
        for (int code = 0; code < 300; code++) {
            char sign = (char) code;
            Object got = answer(() -> x.type(sign));
            due(got, code < 32 || code > 126 ? ARGUMENT : 1, "type of code " + code);
            due(x.erase(), code < 32 || code > 126 ? 0 : 1, "erase");
        }
        for (int i = 1; i <= 60; i++) {
            due(x.type((char) (31 + i)), i, "type");
        }
        fails(x, STATE, () -> x.type('a'), "type of one more");
        fails(x, ARGUMENT, () -> x.signAt(60), "signAt beyond the text");
        due(x.signAt(59), (char) 91, "signAt of the last one");
        due(x.erase(), 60, "erase");
        due(x.type('a'), 1, "type behind it");
        about("some calls put a number there, in place of what it was");
        Boxedvalue y = by(6, "-0.5", "0", "-10", "100.0250000000", "-999999999999", MOST, "0", LEAST);
        type(y, "a".repeat(60));
        String[] lows = {"-0.5", "-10", "-999999999999", "0"};
        String[] highs = {"0", "100.025", MOST, LEAST};
        String[] widths = {"0.5", "110.025", "1999999999998.9999999999", LEAST};
        for (int shelf = 0; shelf < 4; shelf++) {
            due(signs(y, y.low(shelf)), lows[shelf], "low");
            due(signs(y, y.high(shelf)), highs[shelf], "high");
            due(signs(y, y.width(shelf)), widths[shelf], "width");
            due(y.erase(), widths[shelf].length(), "erase");
        }
        for (int ahead = 0; ahead < 12; ahead++) {
            for (int behind = 0; behind <= 10; behind++) {
                String text = "1" + "0".repeat(ahead) + (behind == 0 ? "" : "." + "0".repeat(behind - 1) + "1");
                hold(y, 4, "-" + text, text);
                due(box(y, 4), "-" + text + " " + text, "a number's text");
            }
        }
        takenTexts();
        numbers();
    }

    private static void takenTexts() {
        about("others read it, and take it away then, also at a fault, but not with an exception");
        Boxedvalue x = new Boxedvalue();
        type(x, "5").read(0);
        due(x.erase(), 0, "the text behind read");
        type(x, "x").define(0);
        due(x.erase(), 0, "the text behind define");
        due(type(x, "x+").define(0), -3, "define at a fault");
        due(x.erase(), 0, "the text behind define at a fault");
        type(x, "x+");
        fails(x, ARGUMENT, () -> x.read(0), "read of no number");
        due(x.erase(), 2, "the text behind it");
        type(x, "1000000000000");
        fails(x, STATE, () -> x.read(0), "read too great");
        due(x.erase(), 13, "the text behind it");
        type(x, "xy");
        fails(x, IndexOutOfBoundsException.class, () -> x.define(4), "define of no formula");
        fails(x, IndexOutOfBoundsException.class, () -> x.read(10), "read onto no shelf");
        due(x.erase(), 2, "the text behind them");
        type(x, "xy");
        x.put(1, 5, 1);
        x.add(1, 1, 1);
        x.setDigits(3);
        x.zeros(0, 1, 1);
        x.decide(0, 0, 1);
        x.isSound();
        due(x.erase(), 2, "the text behind calls that do not read it");
    }

    private static void numbers() {
        about("a text is a number");
        Boxedvalue x = new Boxedvalue();
        x.setDigits(10);
        String[] fine = {"0", "1", "+1", "-1", ".5", "5.", "+.5", "-5.", "-.5", "0.5", "007",
            "0".repeat(22), "0".repeat(21) + "1", "." + "0".repeat(21) + "1", "1." + "0".repeat(21),
            "-" + "0".repeat(10) + "." + "0".repeat(11) + "7", "+" + "0".repeat(22) + ".",
            "-." + "9".repeat(22), "999999999999." + "9".repeat(10), "-999999999999.9999999999"};
        for (String text : fine) {
            BigDecimal value = number(text.endsWith(".") ? text.substring(0, text.length() - 1) : text);
            type(x, text);
            becomes(x, plain(value.setScale(10, RoundingMode.FLOOR)) + " "
                    + plain(value.setScale(10, RoundingMode.CEILING)), "read of " + text, () -> x.read(7));
        }
        String[] none = {"", " ", "+", "-", ".", "+.", "-.", "++1", "+-1", "1+", "1-", "1..", "..1", "1.2.",
            ".1.", "1 ", " 1", "1 2", "1,2", "1e2", "x", "0x1", "1/2", "0".repeat(23),
            "." + "0".repeat(23), "0." + "0".repeat(22), "-" + "1".repeat(23), "0".repeat(60),
            "/", ":", "1/", "1:"};
        for (String text : none) {
            type(x, text);
            becomes(x, ARGUMENT, "read of " + text, () -> x.read(7));
        }
        for (String text : new String[] {"1000000000000", "-1000000000000", "9".repeat(22),
            "-" + "9".repeat(22), "+01000000000000."}) {
            type(x, text);
            becomes(x, STATE, "read of " + text, () -> x.read(7));
        }
        x.setDigits(9);
        for (String text : new String[] {MOST, "-" + MOST}) {
            type(x, text);
            becomes(x, STATE, "read of " + text + " as it is told", () -> x.read(7));
        }
    }

    // ---- formulas

    private static void faults() {
        about("the fault of a text");
        Boxedvalue x = new Boxedvalue();
        for (int formula = 0; formula < 4; formula++) {
            int one = formula;
            fails(x, NONE, () -> x.hasY(one), "hasY of formula " + formula + " at first");
        }
        // each sign of the codes where an atom has to stand, and behind one
        for (char sign = 32; sign < 127; sign++) {
            boolean isAtom = "0123456789xyp".indexOf(sign) >= 0;
            boolean isBegun = "-rela(".indexOf(sign) >= 0;
            due(type(x, "" + sign).define(0), isAtom ? 1 : isBegun ? -2 : -1, "define of " + sign);
            boolean isAct = "+-*/^".indexOf(sign) >= 0;
            due(type(x, "x" + sign).define(0), isAct ? -3 : -2, "define of x" + sign);
            boolean isPart = "0123456789".indexOf(sign) >= 0;
            due(type(x, "7" + sign).define(0), isPart ? 1 : isAct || sign == '.' ? -3 : -2,
                    "define of 7" + sign);
            due(type(x, "x^" + sign).define(0), isPart ? 2 : -3, "define of x^" + sign);
            due(type(x, "(x" + sign).define(0), sign == ')' ? 1 : isAct ? -4 : -3,
                    "define of (x" + sign);
        }
        about("a thirteenth digit of a number is a fault, a point can stand behind twelve");
        String twelve = "123456789012";
        due(type(x, twelve).define(0), 1, "define of twelve digits");
        due(type(x, twelve + "3").define(0), -13, "define of thirteen digits");
        due(type(x, twelve + ".").define(0), -14, "define of a point behind twelve digits");
        due(type(x, twelve + ".3").define(0), -14, "define of a digit behind it");
        due(type(x, twelve + ".+").define(0), -14, "define of another sign behind it");
        due(type(x, "0." + twelve.substring(1)).define(0), 1, "define of twelve digits with a point");
        due(type(x, "0." + twelve).define(0), -14, "define of thirteen digits with a point");
        due(type(x, "x+" + twelve + "+x").define(0), 5, "define of twelve digits among others");
        due(type(x, "x+" + twelve + "3").define(0), -15, "define of thirteen digits among others");
        due(type(x, "000000000000").define(0), 1, "define of twelve zeros");
        due(type(x, "0000000000001").define(0), -13, "define of zeros ahead");
        about("its length if it ends where it cannot");
        String[] ends = {"", "x+", "x*", "x/", "x-", "x^", "(", "(x", "((x)", "-", "r", "e", "l", "a", "5.",
            "x+(y", "x+(", "(x^2", "-r"};
        for (String text : ends) {
            due(type(x, text).define(0), -1 - text.length(), "define of " + text);
        }
        about("at a fault the formula stays");
        define(x, 1, "x+3");
        x.put(0, 4, 0);
        type(x, "x+y+").define(1);
        due(x.hasY(1), false, "hasY behind a fault");
        becomes(x, "7 7", "its value", () -> x.value(7, 1, 0, 0));
        type(x, "y*").define(3);
        fails(x, NONE, () -> x.hasY(3), "hasY of one not defined, behind a fault");
        fullFormulas();
    }

    private static void fullFormulas() {
        about("a formula of sixty signs");
        Boxedvalue x = by(6, "2", "2");
        String[] texts = {"x" + "+x".repeat(29) + "^", "-".repeat(59) + "x",
            "(".repeat(28) + "x" + ")".repeat(28) + "^2", "x" + "*x".repeat(29), "x" + "-x".repeat(29),
            "x^1" + "*x^1".repeat(14), "x" + "/x".repeat(29), "(".repeat(30) + "x" + ")".repeat(29),
            "x/(".repeat(14) + "x" + ")".repeat(14), "p".repeat(60), "1".repeat(60)};
        int[] parts = {-61, 60, 2, 59, 59, 44, 59, -61, 29, -2, -13};
        String[] values = {null, "-2 -2", "4 4", "1073741824 1073741824", "-56 -56", "32768 32768",
            "0 0.000001", null, "2 2", null, null};
        for (int i = 0; i < texts.length; i++) {
            due(type(x, texts[i]).define(0), parts[i], "define of " + texts[i]);
            if (values[i] != null) {
                becomes(x, values[i], "the value of " + texts[i], () -> x.value(7, 0, 0, 0));
            }
        }
        about("what is counted");
        due(type(x, "(x)").define(0), 1, "define with parentheses");
        due(type(x, "x^9").define(0), 2, "define with an exponent");
        due(type(x, "-x").define(0), 2, "define of a negative");
        due(type(x, "12.5").define(0), 1, "define of a number");
        due(type(x, "rx*(y-p)^0/2").define(0), 9, "define of all kinds");
        about("hasY");
        String[] withY = {"y", "y^0", "0*y", "x-(y)", "-y", "y-y"};
        for (String text : withY) {
            define(x, 0, text);
            due(x.hasY(0), true, "hasY of " + text);
        }
        define(x, 0, "x-p*2");
        due(x.hasY(0), false, "hasY of one without");
    }

    private static void value(int digits, String text, Object want) {
        Boxedvalue x = by(digits, "1", "2", "-1", "3");
        define(x, 3, text);
        due(made(x, () -> x.value(7, 3, 0, 1)), want, "the value of " + text);
    }

    private static void slope(String text, Object want) {
        Boxedvalue x = by(6, "1", "2", "-1", "3");
        define(x, 3, text);
        due(made(x, () -> x.slope(7, 3, 0, 1)), want, "the slope of " + text);
    }

    private static void values() {
        about("what stands side by side is worked out from the left");
        value(6, "9-4-2", "3 3");
        value(6, "9-4+2", "7 7");
        value(6, "16/4/2", "2 2");
        value(6, "16/4*2", "8 8");
        value(6, "2+3*4", "14 14");
        value(6, "2*3^2", "18 18");
        value(6, "-3^2", "9 9");
        value(6, "0-3^2", "-9 -9");
        value(6, "r4^3", "8 8");
        value(6, "--3", "3 3");
        about("numbers and pi are told from themselves, x and y are the boxes as they are");
        value(1, "0.25", "0.2 0.3");
        value(0, "p", "3 4");
        value(10, "p", "3.1415926535 3.1415926536");
        value(1, "p-p", "-0.1 0.1");
        Boxedvalue x = by(0, "0.25", "0.75", MOST, MOST);
        define(x, 0, "x");
        becomes(x, "0.25 0.75", "the value of x", () -> x.value(7, 0, 0, 1));
        becomes(x, MOST + " " + MOST, "the value of x at the greatest", () -> x.value(7, 0, 1, 0));
        define(x, 0, "y");
        becomes(x, "0.25 0.75", "the value of y", () -> x.value(7, 0, 1, 0));
        define(x, 0, "999999999999");
        becomes(x, "999999999999 999999999999", "the greatest number", () -> x.value(7, 0, 0, 0));
        define(x, 0, "99999999999.9");
        becomes(x, "99999999999 100000000000", "a number told by no digits", () -> x.value(7, 0, 0, 0));
        about("a part by the exponent 0 is made up all the same");
        value(6, "(1/y)^0", REFUSED);
        value(6, "(ry)^0", REFUSED);
        value(6, "(e99)^0", STATE);
        value(6, "y^0", "1 1");
        value(6, "(y-y)^0", "1 1");
    }

    private static void slopes() {
        about("the slope of a number, of pi, of y and of x");
        slope("7.25", "0 0");
        slope("p", "0 0");
        slope("y", "0 0");
        slope("x", "1 1");
        about("the slope of a power");
        slope("(1/y)^0", "0 0");
        slope("(e99*x)^0", "0 0");
        slope("(1/y)^1", REFUSED);
        slope("(e99*x)^1", STATE);
        slope("x^1", "1 1");
        slope("x^2", "2 4");
        slope("x^9", "9 2304");
        slope("y^9", "0 0");
        about("the slope of a logarithm is u' / u, whatever u is but 0");
        slope("l(-x)", "0.5 1");
        slope("l(x)", "0.5 1");
        slope("l(x-1)", REFUSED);
        slope("l(x-2)", REFUSED);
        slope("l(x-3)", "-1 -0.5");
        about("the slope of a root is divided by 2 * r u");
        slope("r(x)", "0.353553 0.5");
        slope("r(x-1)", REFUSED);
        slope("r(-x)", REFUSED);
        slope("r(x-x+2)", "0 0");
        about("the slope of an arc tangent");
        slope("a(y)", "0 0");
        slope("a(x)", "0.2 0.5");
        slope("a(x*1000000)", STATE);
        about("all is made up in the order in which it is written");
        // its value is too great, its slope is refused
        String w = "(9*999999999999+r(x-1))";
        slope(w, REFUSED);
        value(6, w, STATE);
        slope(w + "*x", REFUSED);
        slope("x*" + w, STATE);
        slope(w + "/x", REFUSED);
        slope("x/" + w, STATE);
        slope(w + "^2", STATE);
        slope(w + "^0", "0 0");
        slope("-" + w, REFUSED);
        slope("r" + w, REFUSED);
        slope("e" + w, STATE);
        slope("l" + w, REFUSED);
        slope("a" + w, REFUSED);
        slope(w + "+(9*999999999999)*x", REFUSED);
        slope("(9*999999999999)*x+" + w, STATE);
        slope(w + "-(9*999999999999)*x", REFUSED);
        about("of the exceptions the first one in the order in which the parts are made up");
        value(6, "1/y+e99", REFUSED);
        value(6, "e99+1/y", STATE);
        value(6, "(e99)/(y*0)", STATE);
        value(6, "x/(y*e99)", STATE);
        value(6, "ry*e99", REFUSED);
        value(6, "l(y-9)*e99+1/y", REFUSED);
    }

    // ---- pieces

    /** For the formula x the least value's box is from the low bound to the middle. */
    private static void middle(int digits, String low, String high, String want) {
        Boxedvalue x = formula("x", low, high);
        x.setDigits(digits);
        becomes(x, low + " " + want, "the middle of " + low + " and " + high + " by " + digits
                + " digits", () -> x.least(7, 0, 0, 0));
        define(x, 1, "0");
        due(x.zeros(1, 0, 1), want.equals(low) ? 1 : 2, "how often " + low + " and " + high + " by "
                + digits + " digits are cut");
        due(x.pairs(1, 1, 0, 0, 1), want.equals(low) ? 1 : 4, "the pairs of them");
    }

    private static void middles() {
        about("the middle, and whether a box can be cut");
        middle(6, "1", "2", "1.5");
        middle(0, "1", "2", "1");
        middle(0, "1", "3", "2");
        middle(0, "1", "4", "2");
        middle(0, "-2", "-1", "-2");
        middle(0, "-2.5", "-1", "-2");
        middle(0, "-1.5", "1", "-1");
        middle(0, "-0.5", "0.25", "-0.5");
        middle(0, "0.5", "0.75", "0.5");
        middle(0, "0.5", "1.5", "1");
        middle(0, "0.5", "1.25", "0.5");
        middle(1, "0.05", "0.15", "0.1");
        middle(1, "0.05", "0.14", "0.05");
        middle(6, "7", "7", "7");
        middle(10, "0", LEAST, "0");
        middle(10, "-" + LEAST, "0", "-" + LEAST);
        middle(10, "0", "0.0000000002", LEAST);
        middle(10, "0", "0.0000000003", LEAST);
        middle(10, "-0.0000000003", "0", "-0.0000000002");
        middle(10, "-" + MOST, MOST, "0");
        middle(10, "999999999999.9999999998", MOST, "999999999999.9999999998");
        middle(10, "999999999999.9999999997", MOST, "999999999999.9999999998");
        middle(10, "-" + MOST, "-999999999999.9999999998", "-" + MOST);
        middle(10, "-" + MOST, "-999999999999.9999999997", "-999999999999.9999999998");
        about("each part is cut again, where it can be");
        // 0 to 3 by no digits: 0 to 1 and 1 to 3, then 1 to 2 and 2 to 3
        Boxedvalue x = formula("0", "0", "3");
        x.setDigits(0);
        for (int cuts = 0; cuts <= 3; cuts++) {
            int pieces = Math.min(cuts + 1, 3);
            due(x.zeros(0, 0, cuts), pieces, "zeros by " + cuts + " cuts");
            if (cuts < 3) {
                due(x.pairs(0, 0, 0, 0, cuts), pieces * pieces, "pairs by " + cuts + " cuts");
            }
        }
        define(x, 1, "x");
        String[] areas = {"0 9", "2 7", "3 6", "3 6"};
        String[] leasts = {"0 1", "0 0", "0 0", "0 0"};
        String[] greatests = {"1 3", "2 3", "2 3", "2 3"};
        for (int cuts = 0; cuts <= 3; cuts++) {
            int often = cuts;
            becomes(x, areas[cuts], "area by " + cuts + " cuts", () -> x.area(7, 1, 0, often));
            becomes(x, leasts[cuts], "least by " + cuts + " cuts", () -> x.least(7, 1, 0, often));
            becomes(x, greatests[cuts], "greatest by " + cuts + " cuts",
                    () -> x.greatest(7, 1, 0, often));
        }
    }

    // ---- keeping

    private interface Step {
        Object make(Boxedvalue x);
    }

    private static Boxedvalue stage() {
        Boxedvalue x = with("2", "3", "1", "2", "1", "1", "2", "2", "5", "5", "7", "7", "1", "1");
        define(x, 0, "x-2");
        x.zeros(0, 0, 0);
        return type(x, "5");
    }

    private static void keeping() {
        Step[] kept = {
            x -> x.put(1, 1, 0), x -> x.read(1), x -> x.constant(1, 'p'), x -> x.join(1, 0, 1),
            x -> x.meet(1, 0, 1), x -> x.add(1, 0, 1), x -> x.subtract(1, 0, 1),
            x -> x.multiply(1, 0, 1), x -> x.divide(1, 0, 1), x -> x.power(1, 0, 2),
            x -> x.root(1, 0, 2), x -> x.apply(1, 0, 'e'), x -> x.solve(1, 1, true),
            x -> x.value(1, 0, 0, 0), x -> x.slope(1, 0, 0, 0), x -> x.piece(1, 0),
            x -> x.narrow(1, 0, 0), x -> x.least(1, 0, 0, 1), x -> x.greatest(1, 0, 0, 1),
            x -> x.area(1, 0, 0, 1), x -> x.move(1, 0, 0, 1),
        };
        for (int i = 0; i < kept.length; i++) {
            about("kept call " + i);
            Boxedvalue x = stage();
            x.put(8, 1, 0);
            due(kept[i].make(x) instanceof Boolean, true, "whether it answers");
            due(x.undo(), 1, "undo of it");
            due(box(x, 1), "1 2", "the shelf behind undo");
            due(x.undo(), 8, "undo of the call ahead of it");
        }
        Step[] others = {
            x -> x.setDigits(3), x -> x.digits(), x -> x.type('a'), x -> x.erase(), x -> x.signAt(0),
            x -> x.low(0), x -> x.high(0), x -> x.width(0), x -> x.isWithin(0, 1),
            x -> x.compare(0, 1), x -> x.sure(0), x -> x.define(0), x -> x.hasY(0),
            x -> x.decide(0, 0, 0), x -> x.zeros(0, 0, 2), x -> x.pieceKind(0),
            x -> x.pairs(0, 0, 0, 0, 2), x -> x.held(), x -> x.checksum(), x -> x.isSound(),
        };
        for (int i = 0; i < others.length; i++) {
            about("a call that is not kept, " + i);
            Boxedvalue x = stage();
            x.put(8, 1, 0);
            Step other = others[i];
            due(answer(() -> other.make(x)) instanceof Class, false, "whether it throws");
            due(x.undo(), 8, "undo of the call ahead of it");
        }
        forgetting();
    }

    private static void forgetting() {
        about("at most twelve are kept, the oldest one being forgotten");
        for (int calls = 0; calls <= 40; calls++) {
            Boxedvalue x = new Boxedvalue();
            for (int i = 0; i < calls; i++) {
                x.put(i % 10, i, 0);
            }
            int kept = Math.min(calls, 12);
            for (int i = calls - 1; i >= calls - kept; i--) {
                due(x.undo(), i % 10, "undo of call " + i);
                due(i < 10 ? answer(() -> x.low(9)) instanceof Class || i % 10 == 9 : true, true,
                        "whether what is left is older");
                if (i >= 10) {
                    due(low(x, i % 10), i - 10, "what the shelf held ahead of call " + i);
                } else {
                    int shelf = i;
                    fails(x, NONE, () -> x.low(shelf), "low of a shelf that held none");
                }
            }
            fails(x, NONE, () -> x.undo(), "undo of what is forgotten");
            due(x.held(), Math.min(10, calls - kept), "held");
        }
        about("also if it becomes the same");
        Boxedvalue x = new Boxedvalue();
        x.put(0, 1, 0);
        for (int i = 0; i < 12; i++) {
            x.put(0, 1, 0);
        }
        for (int i = 0; i < 12; i++) {
            due(x.undo(), 0, "undo of the same");
            due(low(x, 0), "1", "what the shelf held");
        }
        fails(x, NONE, () -> x.undo(), "undo of the thirteenth");
        about("a call that is undone is kept no longer, and undo is not kept itself");
        for (int i = 0; i < 30; i++) {
            x.put(1, i, 0);
            x.put(2, i, 0);
            due(x.undo(), 2, "undo");
        }
        // the call that is undone has put the oldest one out all the same
        for (int i = 29; i > 18; i--) {
            due(low(x, 1), i, "the shelf ahead of undo");
            due(x.undo(), 1, "undo of what was kept ahead");
        }
        fails(x, NONE, () -> x.undo(), "undo of no more");
        due(low(x, 1), 18, "the shelf behind all");
    }

    // ---- single promises

    private static void figures() {
        about("sure: the greatest number of digits, 0 to 10, or -1");
        String[][] bounds = {{"0", "0"}, {MOST, MOST}, {"0", LEAST}, {"-" + LEAST, "0"},
            {"1", "1.9999999999"}, {"1", "2"}, {"-1", "-" + LEAST}, {"-1.0000000001", "-1"},
            {"0.9999999999", "1"}, {"0.5", "0.5999999999"}, {"1.23", "1.2399999999"},
            {"-1.24", "-1.2300000001"}, {"-" + MOST, MOST}, {"-0.0000000011", "-0.000000001"}};
        int[] sure = {10, 10, 9, -1, 0, -1, 0, -1, -1, 1, 2, 2, -1, 8};
        for (int i = 0; i < sure.length; i++) {
            Boxedvalue x = by(0, bounds[i]);
            due(x.sure(0), sure[i], "sure from " + bounds[i][0] + " to " + bounds[i][1]);
        }
        about("compare");
        Boxedvalue x = by(0, "0", "1", "1", "2", "1.0000000001", "2", "1", "1", "0", "0");
        due(x.compare(0, 1), 2, "of boxes that have one number in common");
        due(x.compare(0, 2), -1, "of boxes that have none, but barely");
        due(x.compare(2, 0), 1, "of them the other way");
        due(x.compare(3, 3), 0, "of a single box with itself");
        due(x.compare(0, 0), 2, "of another box with itself");
        due(x.compare(3, 0), 2, "of a single box at the bound of another");
        due(x.compare(0, 4), 2, "of a box with its low bound");
        about("join and meet");
        becomes(x, "0 2", "join", () -> x.join(7, 0, 2));
        becomes(x, "1 1", "meet at one number", () -> x.meet(7, 0, 1));
        becomes(x, NONE, "meet of boxes that have no number in common", () -> x.meet(7, 0, 2));
        becomes(x, NONE, "meet of them the other way", () -> x.meet(7, 2, 0));
        becomes(x, "1.0000000001 2", "meet of a box within another", () -> x.meet(7, 1, 2));
        about("the checksum is a long that goes round");
        for (int round = 0; round < 4; round++) {
            checksum(round);
        }
    }

    private static void checksum(int round) {
        Boxedvalue x = new Boxedvalue();
        for (int shelf = 0; shelf < 9 && round > 0; shelf++) {
            if (round != 2 || shelf % 2 == 0) {
                hold(x, shelf, "-" + MOST, MOST);
            } else {
                x.put(shelf, 0, 0);
            }
        }
        hold(x, 9, "0.5", "0.5");
        x.setDigits(10 - round);
        type(x, "~".repeat(round * 20));
        BigInteger sum = BigInteger.valueOf(7 * 31 + 10 - round);
        for (int shelf = 0; shelf < 10; shelf++) {
            String text = shelf == 9 ? "0.50.5" : round == 0 ? "" : round == 2 && shelf % 2 == 1
                    ? "00" : "-" + MOST + MOST;
            sum = next(sum, text.isEmpty() ? 0 : 1);
            for (char sign : text.toCharArray()) {
                sum = next(sum, sign);
            }
        }
        for (int i = 0; i < round * 20; i++) {
            sum = next(sum, '~');
        }
        due(x.checksum(), sum.longValue(), "the checksum of round " + round);
    }

    private static BigInteger next(BigInteger sum, int code) {
        return sum.multiply(BigInteger.valueOf(31)).add(BigInteger.valueOf(code));
    }

    private static void decide(String one, String other, int want) {
        Boxedvalue x = formula(one, "0", "0");
        define(x, 3, other);
        due(x.decide(0, 3, 0), want, "decide of " + one + " and " + other);
        due(x.digits(), 6, "the digits that there are");
    }

    private static void deciding() {
        about("decide: the least number of digits, 20 and that, -1");
        decide("0", "1", 0);
        decide("1", "0", 20);
        decide("x", "x", -1);
        decide("x", "0.0000000001", 10);
        decide("0.0000000001", "x", 30);
        decide("x", "0.00000000001", -1);
        decide("0.00000000001", "x", -1);
        decide("0.1", "0.2", 1);
        decide("0.2", "0.1", 21);
        about("the digits that there are stay, behind decide and behind isSound");
        for (int digits = 0; digits <= 10; digits++) {
            Boxedvalue x = formula("x", "0", "0");
            define(x, 1, "p");
            String due = (digits == 0 ? "0" : "0." + "3".repeat(digits)) + " "
                    + (digits == 0 ? "1" : "0." + "3".repeat(digits - 1) + "4");
            x.setDigits(digits);
            x.put(1, 1, 0);
            x.put(2, 3, 0);
            x.decide(0, 1, 0);
            becomes(x, due, "a third behind decide", () -> x.divide(7, 1, 2));
            x.decide(0, 0, 0);
            becomes(x, due, "a third behind decide of the same", () -> x.divide(7, 1, 2));
            due(x.isSound(), true, "isSound");
            becomes(x, due, "a third behind isSound", () -> x.divide(7, 1, 2));
            Boxedvalue y = new Boxedvalue();
            y.setDigits(digits);
            y.put(1, 1, 0);
            y.put(2, 3, 0);
            due(y.isSound(), true, "isSound without formulas");
            becomes(y, due, "a third behind it", () -> y.divide(7, 1, 2));
        }
        about("what is refused or too great decides nothing");
        decide("1/x", "5", -1);
        decide("5", "rx+1/x", -1);
        decide("e99", "5", -1);
        decide("5", "e99", -1);
        // by no digits 0.5 is told from 0 to 1
        decide("1/0.5", "0", 21);
        decide("0", "1/0.5", 1);
        decide("999999999999+0.5", "0", 21);
        decide("0", "999999999999+0.95", 2);
    }

    private static String pieces(Boxedvalue x, int count) {
        StringBuilder all = new StringBuilder();
        for (int i = 0; i < count; i++) {
            x.piece(7, i);
            all.append(x.pieceKind(i)).append(low(x, 7)).append(',').append(high(x, 7)).append(' ');
        }
        fails(x, NONE, () -> x.pieceKind(count), "pieceKind behind the last piece");
        fails(x, NONE, () -> x.piece(7, count), "piece behind the last piece");
        return all.toString().trim();
    }

    private static void zeros(int digits, String text, String low, String high, int cuts, String want) {
        Boxedvalue x = formula(text, low, high);
        x.setDigits(digits);
        due(pieces(x, x.zeros(0, 0, cuts)), want, "zeros of " + text + " from " + low + " to " + high
                + " by " + cuts + " cuts");
    }

    private static void looking() {
        about("zeros: a piece is done with if the value does not hold 0");
        zeros(10, "x-1", "1.0000000001", "2", 3, "");
        zeros(10, "x-1", "-2", "0.9999999999", 3, "");
        zeros(10, "x-1", "1", "2", 0, "11,2");
        zeros(10, "x-1", "0", "1", 0, "10,1");
        zeros(10, "x-1", "1", "1", 0, "11,1");
        about("zeros: the value holds 0 as it is told, at one end it holds numbers on both sides");
        zeros(6, "x-1", "1.0000000001", "2", 0, "?1.0000000001,2");
        zeros(6, "x-1", "1.0000000001", "2", 1, "?1.0000000001,1.5");
        zeros(6, "x-1", "0", "0.9999999999", 0, "?0,0.9999999999");
        about("zeros: both ends above 0, or both below 0");
        zeros(6, "3*x-2*x+0.2", "0", "1", 0, "");
        zeros(6, "3*x-2*x-1.2", "0", "1", 0, "");
        zeros(6, "3*x-2*x", "0", "1", 0, "10,1");
        zeros(6, "3*x-2*x-1", "0", "1", 0, "10,1");
        zeros(6, "2*x-3*x", "0", "1", 0, "10,1");
        about("zeros: a slope that holds 0, if only at its bound");
        zeros(6, "x^2", "0", "1", 0, "?0,1");
        zeros(6, "x^2-1/4", "0", "1", 0, "?0,1");
        zeros(6, "x^2-1/4", "0", "1", 1, "?0,0.5 10.5,1");
        zeros(6, "0", "0", "1", 0, "?0,1");
        zeros(6, "0", "1", "1", 3, "?1,1");
        about("zeros: cut as often as told, the left part first");
        zeros(0, "0", "0", "8", 0, "?0,8");
        zeros(0, "0", "0", "8", 1, "?0,4 ?4,8");
        zeros(0, "0", "0", "8", 2, "?0,2 ?2,4 ?4,6 ?6,8");
        zeros(0, "0", "0", "8", 3, "?0,1 ?1,2 ?2,3 ?3,4 ?4,5 ?5,6 ?6,7 ?7,8");
        zeros(0, "0", "0", "3", 3, "?0,1 ?1,2 ?2,3");
        zeros(0, "0", "0", "1", 3, "?0,1");
        about("zeros: what is refused or too great tells nothing");
        zeros(0, "1/x", "-1", "1", 0, "?-1,1");
        zeros(0, "1/x", "-1", "1", 3, "?-1,0 ?0,1");
        zeros(6, "1/x", "-2", "2", 2, "?-1,0 ?0,1");
        zeros(6, "rx-1", "0", "4", 0, "?0,4");
        zeros(6, "rx-1", "0", "4", 2, "?0,1 11,2");
        zeros(0, "999999999999*x", "-4", "4", 0, "?-4,4");
        zeros(0, "999999999999*x", "-4", "4", 3, "?-4,-3 ?-3,-2 ?-2,-1 1-1,0 10,1 ?1,2 ?2,3 ?3,4");
        zeros(10, "e(25*x+4)-1", "-1", "1", 0, "?-1,1");
        zeros(10, "e(25*x+4)-1", "-1", "1", 1, "1-1,0 ?0,1");
        about("zeros: the pieces take the place of those that were found ahead");
        Boxedvalue x = formula("0", "0", "8");
        define(x, 1, "x-9");
        due(x.zeros(0, 0, 3), 8, "zeros");
        due(x.pieceKind(7), '?', "pieceKind");
        due(x.zeros(1, 0, 3), 0, "zeros of none");
        fails(x, NONE, () -> x.pieceKind(0), "pieceKind of none");
    }

    private static void pairing() {
        about("pairs: the values of both formulas can be 0");
        Boxedvalue x = by(6, "0", "2", "1", "3", "0", "0");
        String[] texts = {"x", "y-3", "x-2", "y-0.999999", "1/x", "e(x*99)", "e99", "0", "1"};
        int[] first = {2, 2, 2, 0, 2, 4, 4, 4, 0};
        for (int i = 0; i < texts.length; i++) {
            define(x, 0, texts[i]);
            define(x, 1, "0");
            due(x.pairs(0, 1, 0, 1, 1), first[i], "of " + texts[i] + " and 0");
            due(x.pairs(1, 0, 0, 1, 1), first[i], "of 0 and " + texts[i]);
            define(x, 1, "1");
            due(x.pairs(0, 1, 0, 1, 1), 0, "of " + texts[i] + " and 1");
            due(x.pairs(1, 0, 0, 1, 1), 0, "of 1 and " + texts[i]);
        }
        about("pairs: both boxes are cut as often as told, 0 to 2, where they can be");
        define(x, 0, "0");
        for (int cuts = 0; cuts <= 2; cuts++) {
            due(x.pairs(0, 0, 0, 1, cuts), 1 << 2 * cuts, "of two boxes by " + cuts + " cuts");
            due(x.pairs(0, 0, 0, 2, cuts), 1 << cuts, "of one and a single one");
            due(x.pairs(0, 0, 2, 1, cuts), 1 << cuts, "of a single one and one");
            due(x.pairs(0, 0, 2, 2, cuts), 1, "of two single ones");
        }
    }

    private static void narrowing() {
        about("narrow");
        Boxedvalue x = by(6, "0", "2", "1", "2", "-2", "0", "-1", "1");
        define(x, 0, "x-2");
        becomes(x, "2 2", "to the high bound", () -> x.narrow(7, 0, 0));
        define(x, 0, "x");
        becomes(x, "0 0", "to the low bound", () -> x.narrow(7, 0, 0));
        define(x, 0, "x-2.000001");
        becomes(x, STATE, "beyond the high bound", () -> x.narrow(7, 0, 0));
        define(x, 0, "x+0.000001");
        becomes(x, STATE, "beyond the low bound", () -> x.narrow(7, 0, 0));
        define(x, 0, "x^2");
        becomes(x, REFUSED, "by a slope whose low bound is 0", () -> x.narrow(7, 0, 0));
        becomes(x, REFUSED, "by a slope whose high bound is 0", () -> x.narrow(7, 0, 2));
        becomes(x, REFUSED, "by a slope that holds 0", () -> x.narrow(7, 0, 3));
        define(x, 0, "7");
        becomes(x, REFUSED, "by the slope 0", () -> x.narrow(7, 0, 0));
        about("narrow: the value ahead of the slope");
        define(x, 0, "1/(x-1)+l(x+1)");
        becomes(x, REFUSED, "a value at the middle that is refused", () -> x.narrow(7, 0, 0));
        define(x, 0, "e(x*27)+r(x-2)*0");
        becomes(x, REFUSED, "a value that is refused at the middle", () -> x.narrow(7, 0, 0));
        define(x, 0, "e(x*28)+r(x-2)*0");
        becomes(x, STATE, "a value that is too great ahead of that", () -> x.narrow(7, 0, 0));
        define(x, 0, "r(x-1)*(9*999999999999)");
        becomes(x, STATE, "a value that is too great ahead of a slope that is refused",
                () -> x.narrow(7, 0, 0));
        define(x, 0, "0.000001*x-999999");
        becomes(x, "0 2", "a quotient that is great", () -> x.join(7, 0, 0));
        becomes(x, STATE, "nothing that is so far off", () -> x.narrow(7, 0, 0));
        define(x, 0, "0.000001*x-1000001");
        becomes(x, STATE, "a quotient that is too great", () -> x.narrow(7, 0, 0));
        about("narrow: the middle of a box that cannot be cut is its low bound");
        Boxedvalue y = by(0, "0.5", "0.75");
        define(y, 0, "x-1");
        // v is -0.5, told from -1 to 0, so that m - v / s is from 0.5 to 1.5, told from 0 to 2
        becomes(y, "0.5 0.75", "by no digits", () -> y.narrow(7, 0, 0));
    }

    private static void bounds() {
        about("least and greatest: of several pieces the first one ahead of the others");
        // refused in the left part, too great in the right one
        Boxedvalue x = formula("1/x+e(x*9)", "0", "4");
        // too great in the left part, refused in the right one
        Boxedvalue y = formula("e(x*-9)+1/x", "-4", "0");
        for (int cuts = 1; cuts <= 3; cuts++) {
            int often = cuts;
            becomes(x, REFUSED, "least", () -> x.least(7, 0, 0, often));
            becomes(x, REFUSED, "greatest", () -> x.greatest(7, 0, 0, often));
            becomes(x, REFUSED, "area", () -> x.area(7, 0, 0, often));
            becomes(y, STATE, "least", () -> y.least(7, 0, 0, often));
            becomes(y, STATE, "greatest", () -> y.greatest(7, 0, 0, often));
            becomes(y, STATE, "area", () -> y.area(7, 0, 0, often));
        }
        about("area: the products, and the sum from the left");
        // the first product is too great, the second value is refused
        Boxedvalue z = formula("999999999999/(5-x)", "0", "8");
        becomes(z, STATE, "a product ahead of the next value", () -> z.area(7, 0, 0, 1));
        // each product is 599999999998, the third value is refused
        define(z, 0, "299999999999+0/(5-x)");
        becomes(z, STATE, "a sum ahead of the next value", () -> z.area(7, 0, 0, 2));
        hold(z, 0, "2", "8");
        becomes(z, REFUSED, "a value ahead of the sum", () -> z.area(7, 0, 0, 1));
        define(z, 0, "299999999999");
        hold(z, 0, "0", "2");
        becomes(z, "599999999998 599999999998", "a sum that is not", () -> z.area(7, 0, 0, 1));
        hold(z, 0, "0", "4");
        becomes(z, STATE, "a sum that is too great", () -> z.area(7, 0, 0, 1));
        define(z, 0, "-299999999999");
        becomes(z, STATE, "a sum that is too great below 0", () -> z.area(7, 0, 0, 1));
        about("area: the widths as they are, also if they are too great for a box");
        Boxedvalue w = formula("0.5", "-" + MOST, MOST);
        w.setDigits(10);
        becomes(w, MOST + " " + MOST, "area by no cut", () -> w.area(7, 0, 0, 0));
        hold(w, 0, "-999999999999", "999999999999");
        becomes(w, "999999999999 999999999999", "area by three cuts", () -> w.area(7, 0, 0, 3));
        w.setDigits(0);
        becomes(w, STATE, "area of 0.5 as it is told by no digits",
                () -> w.area(7, 0, 0, 0));
        define(w, 0, "0");
        becomes(w, "0 0", "area of 0", () -> w.area(7, 0, 0, 0));
        hold(w, 0, "0", LEAST);
        define(w, 0, "999999999999");
        becomes(w, "99 100", "area over the least width", () -> w.area(7, 0, 0, 3));
        hold(w, 0, "5", "5");
        becomes(w, "0 0", "area over a single box", () -> w.area(7, 0, 0, 3));
    }

    private static void moving() {
        about("move: up to eight times a tube is looked for");
        int[] digits = {0, 6, 10};
        int[] last = {933, 191, 58};
        for (int i = 0; i < 3; i++) {
            Boxedvalue x = formula("x", "1", "1");
            x.setDigits(digits[i]);
            int step = last[i];
            due(answer(() -> x.move(7, 0, 0, step)), false, "a tube that the eighth time finds");
            if (i == 1) {
                due(box(x, 7), "1.190998 1.236094", "its box");
            }
            fails(x, STATE, () -> x.move(7, 0, 0, step + 1), "a tube that a ninth time would find");
        }
        about("move: t within the tube at once");
        Boxedvalue x = formula("0", "-" + MOST, MOST);
        x.setDigits(10);
        becomes(x, "-" + MOST + " " + MOST, "no speed in the widest box", () -> x.move(7, 0, 0, 1000));
        define(x, 0, "2-x");
        hold(x, 0, "2", "2");
        becomes(x, "2 2", "where it rests", () -> x.move(7, 0, 0, 1000));
        about("move: the step and the box from 0 to it as they are");
        // by no digits h * v is told from 0 to 1, and 0.25 and that from 0 to 2
        define(x, 0, "1");
        hold(x, 0, "0.25", "0.25");
        for (int by = 0; by <= 10; by++) {
            x.setDigits(by);
            String want = by == 0 ? "0 2" : by == 1 ? "0.7 0.8" : "0.75 0.75";
            becomes(x, want, "half a step by " + by + " digits", () -> x.move(7, 0, 0, 500));
        }
        about("move: a tube that is too great");
        x.setDigits(10);
        hold(x, 0, "999999999999", "999999999999");
        define(x, 0, "0.9");
        becomes(x, "999999999999.9 999999999999.9", "just below the limit", () -> x.move(7, 0, 0, 1000));
        x.setDigits(1);
        becomes(x, STATE, "the tube at the limit", () -> x.move(7, 0, 0, 1000));
        define(x, 0, "0.8");
        becomes(x, "999999999999.8 999999999999.8", "below it", () -> x.move(7, 0, 0, 1000));
        about("move: what is refused");
        define(x, 0, "1/(x-1)");
        hold(x, 0, "1", "2");
        becomes(x, REFUSED, "at once", () -> x.move(7, 0, 0, 1));
        hold(x, 0, "1.1", "2");
        x.setDigits(6);
        becomes(x, "1.10099 2.010001", "not with a short step", () -> x.move(7, 0, 0, 1));
        define(x, 0, "1/(1-x)");
        hold(x, 0, "0.9", "0.9");
        becomes(x, REFUSED, "as the tube grows", () -> x.move(7, 0, 0, 100));
    }

    private static void calls() {
        about("an object is used for at most 512 calls");
        Boxedvalue x = new Boxedvalue();
        for (int i = 0; i < 512; i++) {
            due(x.constant(i % 10, 'p'), false, "constant " + i);
        }
        due(box(x, 511 % 10), "3.141592 3.141593", "the last one's box");
        Step[] steps = {
            y -> type(y, "5").read(8), y -> y.add(8, 0, 2), y -> y.apply(8, 2, 'e'),
            y -> y.power(8, 0, 2), y -> y.solve(8, 1, true), y -> y.value(8, 0, 0, 0),
            y -> y.slope(8, 0, 0, 0), y -> y.narrow(8, 0, 0), y -> y.least(8, 0, 0, 3),
            y -> y.area(8, 0, 0, 3), y -> y.move(8, 0, 0, 1), y -> y.zeros(0, 0, 3),
            y -> y.pairs(0, 0, 0, 0, 2), y -> y.decide(0, 0, 0), y -> y.isSound(),
        };
        for (Step step : steps) {
            Boxedvalue y = stage();
            y.put(8, 1, 0);
            Object first = step.make(y);
            String box = box(y, 8);
            for (int i = 1; i < 512; i++) {
                due(step.make(y), first, "the same call again");
            }
            due(box(y, 8), box, "the box behind it");
        }
        x = new Boxedvalue();
        for (int i = 0; i < 255; i++) {
            due(x.put(i % 10, i, 0), true, "put " + i);
            due(x.type('7'), i % 50 + 1, "type");
            if (i % 50 == 49) {
                due(x.erase(), 50, "erase");
            }
        }
        due(x.held(), 10, "held");
    }

    public static void main(String[] args) {
        withMoreDigits();
        theTrueValue();
        zerosAreTrue();
        tubesAreTrue();
        boxes();
        digits();
        constants();
        acts();
        tooGreat();
        refused();
        solving();
        texts();
        faults();
        values();
        slopes();
        middles();
        keeping();
        figures();
        deciding();
        looking();
        pairing();
        narrowing();
        bounds();
        moving();
        calls();
        tell("EdgesTest");
    }
}
