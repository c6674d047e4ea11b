import java.util.NoSuchElementException;

/** Each promise by its number: ordinary inputs, the edges that the document names, wrong inputs. */
public final class PromisesTest extends Bench {
    private static final Class<?> INDEX = IndexOutOfBoundsException.class;
    private static final Class<?> ARGUMENT = IllegalArgumentException.class;
    private static final Class<?> NONE = NoSuchElementException.class;
    private static final Class<?> STATE = IllegalStateException.class;
    private static final Class<?> REFUSED = ArithmeticException.class;
    private static final Class<?> UNSUPPORTED = UnsupportedOperationException.class;

    private PromisesTest() { }

    private static void digitsAndText() {
        about("promise 1");
        Boxedvalue x = new Boxedvalue();
        due(x.digits(), 6, "digits of a new object");
        due(x.held(), 0, "held of a new object");
        due(x.erase(), 0, "erase of a new object");
        for (int i = 0; i < 4; i++) {
            int formula = i;
            fails(x, NONE, () -> x.hasY(formula), "hasY of a new object");
        }
        fails(x, NONE, () -> x.undo(), "undo of a new object");
        fails(x, NONE, () -> x.pieceKind(0), "pieceKind of a new object");
        about("promise 2");
        due(x.setDigits(0), 6, "setDigits(0)");
        due(x.setDigits(10), 0, "setDigits(10)");
        due(x.setDigits(10), 10, "setDigits(10) again");
        fails(x, ARGUMENT, () -> x.setDigits(11), "setDigits(11)");
        fails(x, ARGUMENT, () -> x.setDigits(-1), "setDigits(-1)");
        fails(x, ARGUMENT, () -> x.setDigits(Integer.MIN_VALUE), "setDigits(least)");
        about("promise 3");
        due(x.digits(), 10, "digits");
        x.setDigits(3);
        due(x.digits(), 3, "digits");
        Boxedvalue kept = with("0.12345", "0.12345");
        kept.setDigits(2);
        due(box(kept, 0), "0.12345 0.12345", "a box that is there as the digits change");
        about("promise 4");
        due(x.type(' '), 1, "type of 32");
        due(x.type('~'), 2, "type of 126");
        fails(x, ARGUMENT, () -> x.type((char) 31), "type of 31");
        fails(x, ARGUMENT, () -> x.type((char) 127), "type of 127");
        fails(x, ARGUMENT, () -> x.type((char) 65535), "type of 65535");
        for (int i = 3; i <= 60; i++) {
            due(x.type('a'), i, "type");
        }
        fails(x, STATE, () -> x.type('a'), "type behind 60 signs");
        fails(x, ARGUMENT, () -> x.type('\n'), "type of a wrong sign behind 60 signs");
        about("promise 6");
        due(x.signAt(0), ' ', "signAt(0)");
        due(x.signAt(1), '~', "signAt(1)");
        due(x.signAt(59), 'a', "signAt(59)");
        fails(x, ARGUMENT, () -> x.signAt(60), "signAt(60)");
        fails(x, ARGUMENT, () -> x.signAt(-1), "signAt(-1)");
        about("promise 5");
        due(x.erase(), 60, "erase");
        due(x.erase(), 0, "erase of an empty text");
        fails(x, ARGUMENT, () -> x.signAt(0), "signAt of an empty text");
        due(x.type('b'), 1, "type behind erase");
    }

    private static void putting() {
        about("promise 7");
        Boxedvalue x = new Boxedvalue();
        due(x.put(0, 12345678, 6), true, "put of six digits");
        due(box(x, 0), "12.345678 12.345678", "its box");
        due(x.put(0, 12345678, 7), false, "put of seven digits");
        due(box(x, 0), "1.234567 1.234568", "its box");
        due(x.put(9, -12345678, 7), false, "put below 0");
        due(box(x, 9), "-1.234568 -1.234567", "its box");
        due(x.put(1, 1, 18), false, "put of the least number");
        due(box(x, 1), "0 0.000001", "its box");
        due(x.put(1, -1, 18), false, "put of the least one below 0");
        due(box(x, 1), "-0.000001 0", "its box");
        due(x.put(1, Long.MIN_VALUE, 18), false, "put of the least long");
        due(box(x, 1), "-9.223373 -9.223372", "its box");
        due(x.put(1, Long.MAX_VALUE, 7), false, "put of the greatest long");
        due(box(x, 1), "922337203685.47758 922337203685.477581", "its box");
        due(x.put(1, 999999999999L, 0), true, "put of the greatest number");
        due(x.put(1, -999999999999999999L, 6), true, "put of the least number");
        due(box(x, 1), "-999999999999.999999 -999999999999.999999", "its box");
        fails(x, STATE, () -> x.put(1, 1000000000000L, 0), "put of the limit");
        fails(x, STATE, () -> x.put(1, -1000000000000L, 0), "put of the limit below 0");
        fails(x, STATE, () -> x.put(1, Long.MIN_VALUE, 0), "put of the least long");
        fails(x, STATE, () -> x.put(1, Long.MAX_VALUE, 0), "put of the greatest long");
        fails(x, STATE, () -> x.put(1, Long.MAX_VALUE, 6), "put just too great");
        fails(x, INDEX, () -> x.put(10, Long.MAX_VALUE, 19), "put on no shelf");
        fails(x, INDEX, () -> x.put(-1, 1, 0), "put on no shelf");
        fails(x, ARGUMENT, () -> x.put(1, Long.MAX_VALUE, 19), "put by a wrong scale");
        fails(x, ARGUMENT, () -> x.put(1, 1, -1), "put by a wrong scale");
        x.setDigits(0);
        fails(x, STATE, () -> x.put(1, 9999999999991L, 1), "put too great as it is told");
        due(x.put(1, 5, 1), false, "put by no digits");
        due(box(x, 1), "0 1", "its box");
        x.setDigits(10);
        due(x.put(1, 12345678901L, 10), true, "put by ten digits");
        due(box(x, 1), "1.2345678901 1.2345678901", "its box");
    }

    private static void reading() {
        about("promise 8");
        Boxedvalue x = new Boxedvalue();
        String[][] fine = {
            {"1", "1 1"}, {"-1.5", "-1.5 -1.5"}, {"+.5", "0.5 0.5"}, {"7.", "7 7"},
            {"-0", "0 0"}, {"-.0", "0 0"}, {"0000000000000000000012", "12 12"},
            {"1.000000000000000", "1 1"}, {"0.0000001", "0 0.000001"}, {"-0.0000001", "-0.000001 0"},
            {".1234567890123456789012", "0.123456 0.123457"},
            {"-.1234560000000000000001", "-0.123457 -0.123456"},
            {"999999999999.999999", "999999999999.999999 999999999999.999999"},
        };
        for (String[] one : fine) {
            String[] bounds = one[1].split(" ");
            type(x, one[0]);
            due(x.read(3), bounds[0].equals(bounds[1]), "read " + one[0]);
            due(x.erase(), 0, "the text behind read");
            due(box(x, 3), one[1], "the box of " + one[0]);
        }
        String[] faults = {"", "+", "-", ".", "-.", "1.2.3", "+-1", "1-", "1e3", " 1", "1 ", "x",
            "12345678901234567890123", "0.1234567890123456789012", "--1", "..", "1,5"};
        for (String fault : faults) {
            type(x, fault);
            fails(x, ARGUMENT, () -> x.read(3), "read " + fault);
            due(x.erase(), fault.length(), "the text behind a read that failed");
        }
        for (String great : new String[] {"1000000000000", "-1000000000000",
            "9999999999999999999999", "999999999999.9999991"}) {
            type(x, great);
            fails(x, STATE, () -> x.read(3), "read " + great);
            due(x.erase(), great.length(), "the text behind a read that failed");
        }
        type(x, "x");
        fails(x, INDEX, () -> x.read(10), "read onto no shelf");
        fails(x, INDEX, () -> x.read(-1), "read onto no shelf");
        about("promise 9");
        due(x.constant(0, 'p'), false, "pi");
        due(box(x, 0), "3.141592 3.141593", "pi by six digits");
        due(x.constant(0, 'e'), false, "e");
        due(box(x, 0), "2.718281 2.718282", "e by six digits");
        x.setDigits(10);
        x.constant(0, 'p');
        due(box(x, 0), "3.1415926535 3.1415926536", "pi by ten digits");
        x.constant(0, 'e');
        due(box(x, 0), "2.7182818284 2.7182818285", "e by ten digits");
        x.setDigits(0);
        x.constant(0, 'e');
        due(box(x, 0), "2 3", "e by no digits");
        fails(x, INDEX, () -> x.constant(10, 'z'), "a constant onto no shelf");
        fails(x, ARGUMENT, () -> x.constant(0, 'P'), "a wrong constant");
    }

    private static void boxes() {
        Boxedvalue x = with("1", "2", "2", "3", "2.5", "4", "-1", "-1", "2", "2");
        about("promise 10");
        due(x.join(5, 0, 2), false, "join");
        due(box(x, 5), "1 4", "its box");
        due(x.join(5, 2, 0), false, "join the other way");
        due(box(x, 5), "1 4", "its box");
        due(x.join(5, 3, 3), true, "join with itself");
        due(box(x, 5), "-1 -1", "its box");
        x.setDigits(0);
        x.join(2, 2, 2);
        due(box(x, 2), "2.5 4", "join is not told by digits");
        fails(x, INDEX, () -> x.join(10, 7, 7), "join onto no shelf");
        fails(x, INDEX, () -> x.join(0, 10, 7), "join of no shelf");
        fails(x, INDEX, () -> x.join(0, 7, -1), "join of no shelf");
        fails(x, NONE, () -> x.join(0, 7, 1), "join of none");
        fails(x, NONE, () -> x.join(0, 1, 7), "join with none");
        about("promise 11");
        due(x.meet(5, 0, 1), true, "meet at one number");
        due(box(x, 5), "2 2", "its box");
        due(x.meet(5, 1, 2), false, "meet");
        due(box(x, 5), "2.5 3", "its box, not told by digits");
        due(x.meet(5, 0, 0), false, "meet with itself");
        fails(x, NONE, () -> x.meet(5, 0, 2), "meet of boxes apart");
        fails(x, NONE, () -> x.meet(5, 2, 0), "meet of boxes apart");
        fails(x, INDEX, () -> x.meet(-1, 7, 7), "meet onto no shelf");
        fails(x, INDEX, () -> x.meet(0, 7, 10), "meet of no shelf");
        fails(x, NONE, () -> x.meet(0, 0, 7), "meet with none");
        hold(x, 0, "-1", "1");
        fails(x, NONE, () -> x.meet(0, 0, 7), "meet of 0 with none");
        fails(x, NONE, () -> x.meet(0, 7, 0), "meet of none with 0");
        textsOfBounds();
        comparing();
    }

    private static void textsOfBounds() {
        about("promise 12");
        Boxedvalue x = with("-0.05", "12.5", "0.0000000001", "999999999999.9999999999",
                "-999999999999.9999999999", "999999999999.9999999999", "0", "0");
        due(x.low(0), 5, "low");
        due(signs(x, 5), "-0.05", "its text");
        due(low(x, 1), "0.0000000001", "the least bound");
        due(low(x, 3), "0", "0 as a bound");
        due(x.low(2), 24, "the longest low bound");
        fails(x, INDEX, () -> x.low(10), "low of no shelf");
        fails(x, NONE, () -> x.low(7), "low of none");
        about("promise 13");
        due(x.high(0), 4, "high");
        due(signs(x, 4), "12.5", "its text");
        due(high(x, 1), "999999999999.9999999999", "the greatest bound");
        fails(x, INDEX, () -> x.high(-1), "high of no shelf");
        fails(x, NONE, () -> x.high(7), "high of none");
        about("promise 14");
        due(x.width(0), 5, "width");
        due(signs(x, 5), "12.55", "its text");
        due(x.width(3), 1, "width of a single box");
        due(signs(x, 1), "0", "its text");
        due(x.width(2), 24, "the greatest width");
        due(signs(x, 24), "1999999999999.9999999998", "its text");
        fails(x, INDEX, () -> x.width(10), "width of no shelf");
        fails(x, NONE, () -> x.width(7), "width of none");
    }

    private static void comparing() {
        Boxedvalue x = with("1", "2", "2", "3", "1.5", "2", "-1", "-1", "2", "2", "2", "2", "3.5", "4");
        about("promise 15");
        due(x.isWithin(2, 0), true, "isWithin");
        due(x.isWithin(0, 2), false, "isWithin the other way");
        due(x.isWithin(0, 0), true, "isWithin itself");
        due(x.isWithin(4, 0), true, "isWithin at the bound");
        due(x.isWithin(1, 0), false, "isWithin beyond");
        fails(x, INDEX, () -> x.isWithin(10, 7), "isWithin of no shelf");
        fails(x, INDEX, () -> x.isWithin(7, -1), "isWithin no shelf");
        fails(x, NONE, () -> x.isWithin(7, 0), "isWithin of none");
        fails(x, NONE, () -> x.isWithin(0, 7), "isWithin none");
        about("promise 16");
        due(x.compare(3, 0), -1, "compare of less");
        due(x.compare(0, 3), 1, "compare of greater");
        due(x.compare(4, 5), 0, "compare of single and the same");
        due(x.compare(0, 1), 2, "compare at one number");
        due(x.compare(0, 0), 2, "compare with itself");
        due(x.compare(4, 0), 2, "compare of one that is held");
        due(x.compare(1, 6), -1, "compare of boxes apart");
        fails(x, INDEX, () -> x.compare(10, 7), "compare of no shelf");
        fails(x, INDEX, () -> x.compare(7, 10), "compare with no shelf");
        fails(x, NONE, () -> x.compare(7, 0), "compare of none");
        fails(x, NONE, () -> x.compare(0, 7), "compare with none");
        about("promise 17");
        Boxedvalue y = with("1.23456", "1.23457", "1.5", "1.5", "1.9", "2", "-0.5", "0.5",
                "-0.0000000002", "-0.0000000001", "1.2345678901", "1.2345678902", "1.1", "1.19");
        due(y.sure(0), 4, "sure");
        due(y.sure(1), 10, "sure of a single box");
        due(y.sure(2), -1, "sure of none");
        due(y.sure(3), -1, "sure across 0");
        due(y.sure(4), 9, "sure below 0, rounded down");
        due(y.sure(5), 9, "sure by nine digits");
        due(y.sure(6), 1, "sure by one digit");
        fails(y, INDEX, () -> y.sure(10), "sure of no shelf");
        fails(y, NONE, () -> y.sure(7), "sure of none");
    }

    private static void undoing() {
        about("promise 18");
        Boxedvalue x = new Boxedvalue();
        x.put(0, 1, 0);
        x.put(1, 2, 0);
        x.put(0, 3, 0);
        due(x.undo(), 0, "undo");
        due(box(x, 0), "1 1", "what the shelf held");
        due(x.undo(), 1, "undo");
        fails(x, NONE, () -> x.low(1), "low of a shelf that holds none again");
        due(x.undo(), 0, "undo");
        due(x.held(), 0, "held behind undo");
        fails(x, NONE, () -> x.undo(), "undo of no call");
        for (int i = 0; i < 14; i++) {
            x.put(i % 10, i, 0);
        }
        for (int i = 13; i >= 2; i--) {
            due(x.undo(), i % 10, "undo of twelve");
        }
        fails(x, NONE, () -> x.undo(), "undo of the thirteenth");
        due(box(x, 0) + " " + box(x, 1) + " " + x.held(), "0 0 1 1 2", "what is left");
        x.put(0, 7, 0);
        x.join(0, 0, 0);
        due(x.undo(), 0, "undo of a call that changed nothing");
        due(box(x, 0), "7 7", "what the shelf held");
        x.setDigits(2);
        type(x, "12");
        long before = x.checksum();
        fails(x, STATE, () -> x.put(5, Long.MAX_VALUE, 0), "a call that throws");
        due(x.checksum(), before, "the checksum");
        due(x.undo(), 0, "undo leaves out calls that threw, digits and texts");
        due(x.digits() + " " + x.erase(), "2 2", "what undo leaves");
    }

    private static void acts() {
        about("promise 19");
        Boxedvalue x = with("1.25", "2.5", "-1", "3", "0.00000004", "0.00000004", "999999999999",
                "999999999999", "1", "1");
        due(x.add(5, 0, 1), false, "add");
        due(box(x, 5), "0.25 5.5", "its box");
        due(x.add(5, 2, 4), false, "add of small ones");
        due(box(x, 5), "1 1.000001", "its box, told by six digits");
        fails(x, STATE, () -> x.add(5, 3, 4), "add too great");
        two(x, "add", (s, a, b) -> x.add(s, a, b));
        about("promise 20");
        due(x.subtract(5, 0, 1), false, "subtract");
        due(box(x, 5), "-1.75 3.5", "its box");
        due(x.subtract(5, 4, 4), true, "subtract of the same");
        due(box(x, 5), "0 0", "its box");
        due(x.subtract(5, 4, 2), false, "subtract of a small one");
        due(box(x, 5), "0.999999 1", "its box");
        x.apply(6, 4, '-');
        fails(x, STATE, () -> x.subtract(5, 3, 6), "subtract too great");
        two(x, "subtract", (s, a, b) -> x.subtract(s, a, b));
        about("promise 21");
        due(x.multiply(5, 0, 1), false, "multiply");
        due(box(x, 5), "-2.5 7.5", "its box");
        due(x.multiply(5, 1, 1), false, "multiply with itself");
        due(box(x, 5), "-3 9", "its box");
        due(x.multiply(5, 2, 2), false, "multiply of small ones");
        due(box(x, 5), "0 0.000001", "its box");
        fails(x, STATE, () -> x.multiply(5, 3, 3), "multiply too great");
        Boxedvalue near = with("-0.999999", "-0.999999", "1.000001", "1.000001");
        near.setDigits(10);
        near.multiply(5, 0, 1);
        due(box(near, 5), "-1 -0.9999999999", "a product told down to a whole number");
        due(near.sure(5), 9, "sure of it");
        for (int i = 0; i < 300; i++) {
            due(near.multiply(6, 1, 1), false, "one of many in a row");
            due(near.apply(6, 1, '-'), true, "one of many in a row");
            due(near.put(6, i, 0), true, "one of many in a row");
            due(near.constant(6, 'p'), false, "one of many in a row");
        }
        two(x, "multiply", (s, a, b) -> x.multiply(s, a, b));
        about("promise 22");
        Boxedvalue y = with("1", "1", "3", "3", "-2", "-1", "0", "5", "0.0000000001", "0.0000000001",
                "999999999999", "999999999999", "-6", "4");
        due(y.divide(7, 0, 1), false, "divide");
        due(box(y, 7), "0.333333 0.333334", "its box");
        due(y.divide(7, 1, 0), true, "divide by 1");
        due(box(y, 7), "3 3", "its box");
        due(y.divide(7, 6, 2), false, "divide by numbers below 0");
        due(box(y, 7), "-4 6", "its box");
        due(y.divide(7, 3, 1), false, "divide of 0 and more");
        due(box(y, 7), "0 1.666667", "its box");
        due(y.divide(7, 2, 1), false, "divide of numbers below 0");
        due(box(y, 7), "-0.666667 -0.333333", "its box");
        due(y.divide(7, 4, 1), false, "divide of the least");
        due(box(y, 7), "0 0.000001", "its box");
        due(y.divide(7, 0, 4), true, "divide by the least");
        due(box(y, 7), "10000000000 10000000000", "its box");
        fails(y, REFUSED, () -> y.divide(7, 0, 3), "divide by 0 and more");
        fails(y, REFUSED, () -> y.divide(7, 5, 6), "divide by a box that holds 0");
        fails(y, STATE, () -> y.divide(7, 5, 4), "divide too great");
        y.put(7, 0, 0);
        fails(y, REFUSED, () -> y.divide(7, 7, 7), "divide 0 by 0");
        Boxedvalue z = new Boxedvalue();
        z.put(0, 0, 0);
        fails(z, NONE, () -> z.divide(0, 1, 0), "divide of none by 0");
        fails(z, INDEX, () -> z.divide(0, 1, 10), "divide by no shelf");
    }

    private interface Two {
        Object make(int shelf, int a, int b);
    }

    private static void two(Boxedvalue x, String name, Two call) {
        fails(x, INDEX, () -> call.make(10, 7, 7), name + " onto no shelf");
        fails(x, INDEX, () -> call.make(0, -1, 7), name + " of no shelf");
        fails(x, INDEX, () -> call.make(0, 7, 10), name + " of no shelf");
        fails(x, NONE, () -> call.make(0, 7, 0), name + " of none");
        fails(x, NONE, () -> call.make(0, 0, 7), name + " with none");
    }

    private static void powers() {
        about("promise 23");
        Boxedvalue x = with("-2", "1", "1.5", "2", "-3", "-2", "0.0000000001", "0.0000000001",
                "999999.9999999999", "999999.9999999999", "1000000", "1000000", "0", "0");
        due(x.power(8, 0, 2), false, "an even power across 0");
        due(box(x, 8), "0 4", "its box");
        due(x.power(8, 0, 3), false, "an odd power across 0");
        due(box(x, 8), "-8 1", "its box");
        due(x.power(8, 2, 2), false, "an even power below 0");
        due(box(x, 8), "4 9", "its box");
        due(x.power(8, 1, 3), false, "a power above 0");
        due(box(x, 8), "3.375 8", "its box");
        due(x.power(8, 0, 0), true, "the power by 0");
        due(box(x, 8), "1 1", "its box");
        due(x.power(8, 6, 0), true, "0 by 0");
        due(x.power(8, 3, 9), false, "the ninth power of the least");
        due(box(x, 8), "0 0.000001", "its box");
        due(x.power(8, 3, 1), false, "the power by 1 is told by digits");
        due(box(x, 8), "0 0.000001", "its box");
        due(x.power(8, 4, 2), false, "a great square");
        due(box(x, 8), "999999999999.9998 999999999999.999801", "its box");
        x.setDigits(3);
        fails(x, STATE, () -> x.power(8, 4, 2), "a power too great as it is told");
        x.setDigits(6);
        fails(x, STATE, () -> x.power(8, 5, 2), "a power too great");
        fails(x, STATE, () -> x.power(8, 5, 9), "a power far too great");
        x.setDigits(10);
        due(x.power(8, 4, 2), false, "the greatest square");
        due(box(x, 8), "999999999999.9998 999999999999.9998000001", "its box");
        fails(x, INDEX, () -> x.power(10, 7, 10), "a power onto no shelf");
        fails(x, INDEX, () -> x.power(0, 10, 10), "a power of no shelf");
        fails(x, ARGUMENT, () -> x.power(0, 7, 10), "a power by 10");
        fails(x, ARGUMENT, () -> x.power(0, 7, -1), "a power by -1");
        fails(x, NONE, () -> x.power(0, 7, 2), "a power of none");
        about("promise 24");
        Boxedvalue y = with("2", "9", "0", "0.0000000001", "-0.0000000001", "4", "8", "8", "16", "16",
                "999999999999.9999999999", "999999999999.9999999999", "0.0001", "0.0001");
        due(y.root(8, 0, 2), false, "a root");
        due(box(y, 8), "1.414213 3", "its box");
        due(y.root(8, 3, 3), true, "a root by 3");
        due(box(y, 8), "2 2", "its box");
        due(y.root(8, 4, 4), true, "a root by 4");
        due(box(y, 8), "2 2", "its box");
        due(y.root(8, 1, 2), false, "a root of 0");
        due(box(y, 8), "0 0.00001", "its box");
        due(y.root(8, 5, 2), false, "a root of the greatest");
        due(box(y, 8), "999999.999999 1000000", "its box");
        due(y.root(8, 6, 4), true, "a root below 1");
        due(box(y, 8), "0.1 0.1", "its box");
        y.setDigits(10);
        due(y.root(8, 0, 3), false, "a root by ten digits");
        due(box(y, 8), "1.2599210498 2.0800838231", "its box");
        fails(y, REFUSED, () -> y.root(8, 2, 2), "a root of a number below 0");
        fails(y, REFUSED, () -> y.root(8, 2, 3), "a root by 3 of a number below 0");
        fails(y, INDEX, () -> y.root(10, 7, 1), "a root onto no shelf");
        fails(y, INDEX, () -> y.root(0, -1, 1), "a root of no shelf");
        fails(y, ARGUMENT, () -> y.root(0, 7, 1), "a root by 1");
        fails(y, ARGUMENT, () -> y.root(0, 2, 5), "a root by 5");
        fails(y, NONE, () -> y.root(0, 7, 2), "a root of none");
    }

    private static void applying() {
        about("promise 25");
        Boxedvalue x = with("-2", "1", "1", "1", "0", "0", "28", "28", "-40", "-30", "-3", "-2",
                "1.23456789", "1.23456789", "0.0000000001", "1");
        due(x.apply(8, 0, '-'), false, "the negative");
        due(box(x, 8), "-1 2", "its box");
        due(x.apply(8, 6, '-'), false, "the negative is told by digits");
        due(box(x, 8), "-1.234568 -1.234567", "its box");
        due(x.apply(8, 0, 'b'), false, "without the sign across 0");
        due(box(x, 8), "0 2", "its box");
        due(x.apply(8, 5, 'b'), false, "without the sign below 0");
        due(box(x, 8), "2 3", "its box");
        due(x.apply(8, 6, 'b'), false, "without the sign is told by digits");
        due(box(x, 8), "1.234567 1.234568", "its box");
        due(x.apply(8, 1, 'e'), false, "e to the power of 1");
        due(box(x, 8), "2.718281 2.718282", "its box");
        due(x.apply(8, 2, 'e'), true, "e to the power of 0");
        due(box(x, 8), "1 1", "its box");
        due(x.apply(8, 4, 'e'), false, "e to a low power");
        due(box(x, 8), "0 0.000001", "its box");
        fails(x, STATE, () -> x.apply(8, 3, 'e'), "e to a power too great");
        due(x.apply(8, 1, 'l'), true, "the logarithm of 1");
        due(box(x, 8), "0 0", "its box");
        due(x.apply(8, 7, 'l'), false, "the logarithm of the least");
        due(box(x, 8), "-23.025851 0", "its box");
        fails(x, REFUSED, () -> x.apply(8, 2, 'l'), "the logarithm of 0");
        fails(x, REFUSED, () -> x.apply(8, 0, 'l'), "a logarithm across 0");
        due(x.apply(8, 1, 'a'), false, "the arc tangent of 1");
        due(box(x, 8), "0.785398 0.785399", "its box");
        due(x.apply(8, 2, 'a'), true, "the arc tangent of 0");
        due(x.apply(8, 4, 'a'), false, "the arc tangent of low numbers");
        due(box(x, 8), "-1.545802 -1.537475", "its box");
        x.setDigits(10);
        hold(x, 9, "0.0000000001", "0.0000000001");
        x.apply(8, 9, 'a');
        due(box(x, 8), "0 0.0000000001", "the arc tangent of the least");
        x.apply(8, 9, 'e');
        due(box(x, 8), "1.0000000001 1.0000000002", "e to the least power");
        fails(x, INDEX, () -> x.apply(10, 20, 'z'), "an act onto no shelf");
        fails(x, INDEX, () -> x.apply(0, 10, 'z'), "an act of no shelf");
        fails(x, ARGUMENT, () -> x.apply(0, 0, 'z'), "no such act");
        fails(x, ARGUMENT, () -> x.apply(0, 0, '~'), "no such act");
        fails(x, ARGUMENT, () -> x.apply(0, 0, 'r'), "no such act");
        Boxedvalue y = new Boxedvalue();
        fails(y, NONE, () -> y.apply(0, 0, 'l'), "an act of none");
        fails(y, ARGUMENT, () -> y.apply(0, 0, '+'), "no such act of none");
    }

    private static void solving() {
        about("promise 26");
        // 2 u + 1 v = 5, 1 u + 3 v = 10: u = 1, v = 3
        Boxedvalue x = with("2", "2", "1", "1", "5", "5", "1", "1", "3", "3", "10", "10");
        due(x.solve(6, 0, false), true, "u");
        due(box(x, 6), "1 1", "its box");
        due(x.solve(6, 0, true), true, "v");
        due(box(x, 6), "3 3", "its box");
        due(x.solve(0, 0, true), true, "onto one of the six");
        due(box(x, 0), "3 3", "its box");
        x.undo();
        hold(x, 0, "2", "2.1");
        due(x.solve(6, 0, false), false, "u of boxes");
        due(box(x, 6), "0.943396 1", "its box");
        fails(x, INDEX, () -> x.solve(10, 0, false), "onto no shelf");
        fails(x, INDEX, () -> x.solve(6, 5, false), "of five shelves and none");
        fails(x, INDEX, () -> x.solve(6, -1, false), "of a shelf below 0");
        fails(x, INDEX, () -> x.solve(6, Integer.MAX_VALUE, false), "of a shelf far beyond");
        fails(x, NONE, () -> x.solve(6, 3, false), "of a shelf that holds none");
        for (int i = 0; i < 200; i++) {
            due(x.solve(6, 0, true), false, "one of many in a row");
        }
        hold(x, 4, "0.5", "0.5");
        hold(x, 0, "2", "2");
        fails(x, REFUSED, () -> x.solve(6, 0, false), "divided by 0");
        hold(x, 5, "999999999999", "999999999999");
        fails(x, STATE, () -> x.solve(6, 0, true), "too great ahead of the refusal");
        Boxedvalue y = with("1000000", "1000000", "0", "0", "1000000", "1000000", "0", "0",
                "1000000", "1000000", "1", "1");
        fails(y, STATE, () -> y.solve(6, 0, false), "a product too great");
    }

    private static void fault(String text, int answer) {
        Boxedvalue x = new Boxedvalue();
        define(x, 2, "x+1");
        type(x, text);
        due(x.define(2), answer, "define " + text);
        due(x.erase(), 0, "the text behind define");
        if (answer < 0) {
            x.put(0, 4, 0);
            x.value(1, 2, 0, 0);
            due(low(x, 1), "5", "a formula behind a fault");
        }
    }

    private static void defining() {
        about("promise 27");
        String[] fine = {"x", "1", "p", "y", "-x", "x^2-2", "((((x))))", "x+1/2*y-3", "1.5", "0.00000000001",
            "123456789012", "--x", "relax", "-(x)^0", "x^2*x^3", "e(x)^9/r-l2.5", "ax", "(x+1)*(x-1)"};
        int[] parts = {1, 1, 1, 1, 2, 4, 1, 9, 1, 1, 1, 3, 5, 3, 5, 8, 2, 7};
        for (int i = 0; i < fine.length; i++) {
            fault(fine[i], parts[i]);
        }
        String[] faulty = {"", "+", "x+", "x)", "(x", "2x", "x2", "x^", "x^x", "x^2^3", "x^23", "1.", "1.x",
            ".5", "1.2.3", "1234567890123", "123456789012.", "123456789012.5", "0.123456789012", "x x", "()",
            "x*/2", "x--", "x-*", "b", "X", "x^-2", "x^2x", "(x))", "-", "r", "((x)", "x+y)", "12345678.12345"};
        int[] at = {0, 0, 2, 1, 2, 1, 1, 2, 2, 3, 3, 2, 2, 0, 3, 12, 13, 13, 13, 1, 1,
            2, 3, 2, 0, 0, 2, 3, 3, 1, 1, 4, 3, 13};
        for (int i = 0; i < faulty.length; i++) {
            fault(faulty[i], -1 - at[i]);
        }
        Boxedvalue x = new Boxedvalue();
        type(x, "x");
        fails(x, INDEX, () -> x.define(4), "define of no formula");
        fails(x, INDEX, () -> x.define(-1), "define of no formula");
        due(x.erase(), 1, "the text behind a define that failed");
        type(x, "-".repeat(59) + "x");
        due(x.define(3), 60, "define of sixty parts");
        x.put(0, 7, 0);
        x.value(1, 3, 0, 0);
        due(low(x, 1), "-7", "its value");
        x.slope(1, 3, 0, 0);
        due(low(x, 1), "-1", "its slope");
        type(x, "(".repeat(29) + "xx" + ")".repeat(29));
        due(x.define(3), -31, "define with a fault among parentheses");
        type(x, "(".repeat(29) + "x" + ")".repeat(29));
        due(x.define(3), 1, "define of parentheses");
        about("promise 28");
        due(x.hasY(3), false, "hasY without one");
        define(x, 0, "x+r(2*y)");
        due(x.hasY(0), true, "hasY with one");
        define(x, 0, "x");
        due(x.hasY(0), false, "hasY as it is defined anew");
        type(x, "y+").define(0);
        due(x.hasY(0), false, "hasY behind a fault");
        fails(x, INDEX, () -> x.hasY(4), "hasY of no formula");
        fails(x, INDEX, () -> x.hasY(-1), "hasY of no formula");
        fails(x, NONE, () -> x.hasY(1), "hasY of one not defined");
    }

    private static void value(String text, String want) {
        Boxedvalue x = with("1", "2", "-1", "3");
        define(x, 1, text);
        Object got;
        try {
            boolean isSingle = x.value(5, 1, 0, 1);
            got = box(x, 5);
            due(isSingle, low(x, 5).equals(high(x, 5)), "whether the value of " + text + " is single");
        } catch (RuntimeException thrown) {
            got = thrown.getClass();
        }
        due(got, want, "the value of " + text);
    }

    private static void slope(String text, String want) {
        Boxedvalue x = with("1", "2", "-1", "3");
        define(x, 1, text);
        Object got;
        try {
            boolean isSingle = x.slope(5, 1, 0, 1);
            got = box(x, 5);
            due(isSingle, low(x, 5).equals(high(x, 5)), "whether the slope of " + text + " is single");
        } catch (RuntimeException thrown) {
            got = thrown.getClass();
        }
        due(got, want, "the slope of " + text);
    }

    private static void values() {
        about("promise 29");
        value("x", "1 2");
        value("y", "-1 3");
        value("p", "3.141592 3.141593");
        value("0.12345678901", "0.123456 0.123457");
        value("x-x", "-1 1");
        value("x-x-x", "-3 0");
        value("x-(x-x)", "0 3");
        value("8/x/x", "2 8");
        value("8/(x/x)", "4 16");
        value("1+2*x^2", "3 9");
        value("-x^2", "1 4");
        value("0-x^2", "-4 -1");
        value("r4^2", "4 4");
        value("r(x+2)", "1.73205 2");
        value("e0", "1 1");
        value("l1", "0 0");
        value("a0", "0 0");
        value("x^0", "1 1");
        value("y^2", "0 9");
        value("y*y", "-3 9");
        value("1/y", REFUSED.toString());
        value("(1/y)^0", REFUSED.toString());
        value("ry", REFUSED.toString());
        value("l(y+1)", REFUSED.toString());
        value("999999999999+x", STATE.toString());
        value("999999999999*9+1/y", STATE.toString());
        value("1/y+999999999999*9", REFUSED.toString());
        value("e(x*50)", STATE.toString());
        Boxedvalue x = with("0.15", "0.15");
        define(x, 0, "x");
        x.setDigits(1);
        due(x.value(1, 0, 0, 0), true, "a value of x as it is");
        due(box(x, 1), "0.15 0.15", "its box");
        define(x, 0, "x+0");
        due(x.value(1, 0, 0, 0), false, "a value that is told");
        due(box(x, 1), "0.1 0.2", "its box");
        formulaCalls("value", (y, s, f, a, b) -> y.value(s, f, a, b));
        about("promise 30");
        slope("x", "1 1");
        slope("y", "0 0");
        slope("p", "0 0");
        slope("7.5", "0 0");
        slope("x+x-y", "2 2");
        slope("x*x", "2 4");
        slope("x*y", "-1 3");
        slope("x^2", "2 4");
        slope("x^3", "3 12");
        slope("x^1", "1 1");
        slope("(1/y)^0", "0 0");
        slope("(ly)^0+x", "1 1");
        slope("(1/y)^1", REFUSED.toString());
        slope("1/x", "-1 -0.25");
        slope("x/x", "-1 0.5");
        slope("-x", "-1 -1");
        slope("rx", "0.353553 0.5");
        slope("ex", "2.718281 7.389057");
        slope("lx", "0.5 1");
        slope("ax", "0.2 0.5");
        slope("ly", REFUSED.toString());
        slope("ry", REFUSED.toString());
        slope("1/y", REFUSED.toString());
        slope("999999999999*9+x", "1 1");
        slope("(999999999999*9)*x", STATE.toString());
        slope("r(x-1)", REFUSED.toString());
        formulaCalls("slope", (y, s, f, a, b) -> y.slope(s, f, a, b));
    }

    private interface Formula {
        Object make(Boxedvalue x, int shelf, int formula, int a, int b);
    }

    private static void formulaCalls(String name, Formula call) {
        Boxedvalue x = formula("x", "1", "2");
        fails(x, INDEX, () -> call.make(x, 10, 0, 0, 0), name + " onto no shelf");
        fails(x, INDEX, () -> call.make(x, 0, 4, 7, 7), name + " of no formula");
        fails(x, INDEX, () -> call.make(x, 0, -1, 7, 7), name + " of no formula");
        fails(x, INDEX, () -> call.make(x, 0, 1, 10, 7), name + " of x on no shelf");
        fails(x, INDEX, () -> call.make(x, 0, 1, 7, -1), name + " of y on no shelf");
        fails(x, NONE, () -> call.make(x, 0, 1, 0, 0), name + " of a formula not defined");
        fails(x, NONE, () -> call.make(x, 0, 0, 7, 0), name + " of no x");
        fails(x, NONE, () -> call.make(x, 0, 0, 0, 7), name + " of no y");
    }

    private static int decided(String one, String other, String low, String high) {
        Boxedvalue x = with(low, high);
        define(x, 0, one);
        define(x, 1, other);
        int answer = x.decide(0, 1, 0);
        due(x.digits(), 6, "the digits behind decide");
        return answer;
    }

    private static void deciding() {
        about("promise 31");
        due(decided("x", "x+2", "1", "1"), 0, "decide of less by no digits");
        due(decided("x+2", "x", "1", "1"), 20, "decide of greater by no digits");
        due(decided("p", "3.15", "1", "1"), 3, "decide by three digits");
        due(decided("3.15", "p", "1", "1"), 23, "decide by three digits the other way");
        due(decided("p", "355/113", "1", "1"), 7, "decide by seven digits");
        due(decided("x", "x", "1", "1"), -1, "decide of the same");
        due(decided("x", "3/2", "1", "2"), -1, "decide of boxes that meet");
        // by no digits y + 1/2 is told from 0 to 2, by one as 0.6
        due(decided("x", "y+1/2", "0.1", "0.1"), 1, "decide with y as x");
        due(decided("1/(x-x)", "5", "1", "1"), -1, "decide of what is refused");
        due(decided("1/(x-0.3)", "9", "0.4", "0.4"), 21, "decide of what is refused by no digits");
        due(decided("999999999998+x*1.5", "1", "1", "1"), 21,
                "decide of what is too great by no digits");
        Boxedvalue x = formula("x", "1", "2");
        define(x, 1, "x+9");
        fails(x, INDEX, () -> x.decide(4, 2, 7), "decide of no formula");
        fails(x, INDEX, () -> x.decide(2, -1, 7), "decide with no formula");
        fails(x, INDEX, () -> x.decide(2, 2, 10), "decide of no shelf");
        fails(x, NONE, () -> x.decide(2, 0, 0), "decide of one not defined");
        fails(x, NONE, () -> x.decide(0, 2, 0), "decide with one not defined");
        fails(x, NONE, () -> x.decide(0, 1, 7), "decide of none");
        due(x.decide(0, 1, 0), 0, "decide of two");
        due(x.decide(0, 0, 0), -1, "decide with itself");
    }

    private static String kinds(Boxedvalue x, int count) {
        StringBuilder kinds = new StringBuilder();
        for (int i = 0; i < count; i++) {
            kinds.append(x.pieceKind(i));
            x.piece(9, i);
            kinds.append(' ').append(box(x, 9)).append(';');
        }
        return kinds.toString();
    }

    private static String zeros(String text, String low, String high, int cuts) {
        Boxedvalue x = formula(text, low, high);
        return kinds(x, x.zeros(0, 0, cuts));
    }

    private static void zeros() {
        about("promise 32");
        due(zeros("x^2-2", "1", "2", 0), "1 1 2;", "one zero");
        due(zeros("x^2-2", "2", "3", 0), "", "no zero");
        due(zeros("x^2-2", "-2", "2", 0), "? -2 2;", "two zeros, no cut");
        due(zeros("x^2-2", "-2", "2", 1), "? -2 0;? 0 2;", "two zeros, one cut, the slope 0 at an end");
        due(zeros("x^2-2", "-2", "2", 2), "1 -2 -1;1 1 2;", "two zeros, two cuts");
        due(zeros("2-x", "1", "5", 0), "1 1 5;", "a zero of one that falls");
        due(zeros("x-1", "1", "1", 0), "1 1 1;", "a zero in a single box");
        due(zeros("x-1", "1", "2", 0), "1 1 2;", "a zero at an end");
        due(zeros("x*x", "0", "0", 3), "? 0 0;", "a box that cannot be cut");
        due(zeros("1/x", "-1", "1", 0), "? -1 1;", "what is refused");
        due(zeros("1/x", "-1", "1", 1), "? -1 0;? 0 1;", "what is refused in each part");
        due(zeros("rx-1", "0", "4", 0), "? 0 4;", "a slope that is refused");
        due(zeros("rx-1", "0", "4", 1), "? 0 2;", "a slope that is refused in one part");
        due(zeros("x-x", "0", "4", 3).split(";").length, 8, "eight open pieces");
        due(zeros("x-2+x*0", "0", "4", 0), "1 0 4;", "a zero among");
        Boxedvalue x = formula("x^2-2", "1", "2");
        x.setDigits(0);
        due(x.zeros(0, 0, 3), 1, "zeros by no digits");
        due(kinds(x, 1), "1 1 2;", "its piece");
        hold(x, 0, "1", "1.5");
        due(x.zeros(0, 0, 3), 1, "zeros by no digits");
        due(kinds(x, 1), "1 1 1.5;", "a piece that is done with ahead of a cut");
        define(x, 0, "x*x-x");
        hold(x, 0, "0", "1.5");
        for (String text : new String[] {"1/2-x", "x-1/2"}) {
            for (String[] ends : new String[][] {{"0.25", "3"}, {"-3", "0.75"}}) {
                // 1/2 is told from 0 to 1: at one end the value holds numbers on both sides of 0
                define(x, 1, text);
                hold(x, 1, ends[0], ends[1]);
                due(x.zeros(1, 1, 0), 1, "zeros of " + text + " by no digits");
                due(kinds(x, 1), "? " + ends[0] + " " + ends[1] + ";", "a value that decides nothing");
            }
        }
        // the middle of 0 and 1.5 is 0 by no digits, which is no cut
        due(x.zeros(0, 0, 3), 1, "zeros by no digits");
        due(kinds(x, 1), "? 0 1.5;", "a piece that cannot be cut by no digits");
        fails(x, INDEX, () -> x.zeros(4, 7, 4), "zeros of no formula");
        fails(x, INDEX, () -> x.zeros(1, 10, 4), "zeros of no shelf");
        fails(x, ARGUMENT, () -> x.zeros(1, 7, 4), "zeros by four cuts");
        fails(x, ARGUMENT, () -> x.zeros(1, 7, -1), "zeros by a wrong cut");
        fails(x, NONE, () -> x.zeros(3, 0, 0), "zeros of a formula not defined");
        define(x, 2, "x+y");
        fails(x, NONE, () -> x.zeros(2, 7, 0), "zeros of none with y");
        fails(x, UNSUPPORTED, () -> x.zeros(2, 0, 0), "zeros with y");
        due(kinds(x, 1), "? 0 1.5;", "the pieces behind calls that threw");
        pieces();
    }

    private static void pieces() {
        about("promise 33");
        Boxedvalue x = formula("x^2-2", "-2", "2");
        due(x.zeros(0, 0, 2), 2, "zeros");
        due(x.pieceKind(0), '1', "pieceKind");
        due(x.pieceKind(1), '1', "pieceKind");
        fails(x, NONE, () -> x.pieceKind(2), "pieceKind beyond");
        fails(x, NONE, () -> x.pieceKind(-1), "pieceKind below 0");
        about("promise 34");
        due(x.piece(1, 0), false, "piece");
        due(box(x, 1), "-2 -1", "its box");
        due(x.piece(1, 1), false, "piece");
        due(box(x, 1), "1 2", "its box");
        due(x.undo(), 1, "undo of a piece");
        due(box(x, 1), "-2 -1", "its box");
        fails(x, INDEX, () -> x.piece(10, 5), "a piece onto no shelf");
        fails(x, NONE, () -> x.piece(1, 2), "no such piece");
        fails(x, NONE, () -> x.piece(1, -1), "no such piece");
        due(x.zeros(0, 0, 0), 1, "zeros anew");
        due(x.pieceKind(0), '?', "pieceKind of the pieces now");
        fails(x, NONE, () -> x.pieceKind(1), "a piece of those ahead");
        define(x, 1, "x-1");
        hold(x, 2, "1", "1");
        due(x.zeros(1, 2, 0), 1, "zeros of a single box");
        due(x.piece(3, 0), true, "a single piece");
        hold(x, 2, "5", "6");
        due(x.zeros(1, 2, 3), 0, "no zeros");
        fails(x, NONE, () -> x.pieceKind(0), "a piece of none");
    }

    private static void narrowing() {
        about("promise 35");
        Boxedvalue x = formula("x^2-2", "1", "2");
        due(x.narrow(1, 0, 0), false, "narrow");
        // 1.5 - 0.25 / [2, 4] is from 1.375 to 1.4375
        due(box(x, 1), "1.375 1.4375", "its box");
        due(x.narrow(0, 0, 1), false, "narrow again, onto another");
        // m is 1.40625, v -0.022461 to -0.02246, s 2.75 to 2.875, v / s -0.008168 to -0.007812
        due(box(x, 0), "1.414062 1.414418", "its box");
        x = formula("x-1/4", "0", "2");
        Boxedvalue y = x;
        due(x.narrow(0, 0, 0), true, "narrow to one number");
        due(box(x, 0), "0.25 0.25", "its box");
        hold(x, 0, "-1", "1");
        define(x, 0, "x^2");
        fails(x, REFUSED, () -> y.narrow(0, 0, 0), "narrow by a slope that holds 0");
        hold(x, 0, "2", "3");
        define(x, 0, "x^2+5");
        fails(x, STATE, () -> y.narrow(0, 0, 0), "narrow to nothing");
        define(x, 0, "x*999999999999");
        fails(x, STATE, () -> y.narrow(0, 0, 0), "narrow of what is too great");
        define(x, 0, "x*999999999999+1/(x-x)");
        fails(x, STATE, () -> y.narrow(0, 0, 0), "narrow of what is too great first");
        fails(x, INDEX, () -> y.narrow(10, 1, 7), "narrow onto no shelf");
        fails(x, INDEX, () -> y.narrow(0, 1, 10), "narrow of no shelf");
        fails(x, INDEX, () -> y.narrow(0, 4, 0), "narrow of no formula");
        fails(x, NONE, () -> y.narrow(0, 1, 0), "narrow of a formula not defined");
        define(x, 2, "y");
        fails(x, NONE, () -> y.narrow(0, 2, 7), "narrow of none");
        fails(x, UNSUPPORTED, () -> y.narrow(0, 2, 0), "narrow with y");
        about("promise 36");
        Boxedvalue z = with("-1", "1", "-1", "1");
        define(z, 0, "x^2+y^2-1");
        define(z, 1, "x-y");
        due(z.pairs(0, 1, 0, 1, 0), 1, "pairs without a cut");
        due(z.pairs(0, 1, 0, 1, 1), 4, "pairs by one cut");
        due(z.pairs(1, 1, 0, 1, 2), 10, "pairs by two cuts along a line");
        define(z, 2, "x+5");
        due(z.pairs(2, 0, 0, 1, 2), 0, "pairs of no zero");
        define(z, 2, "1/x");
        due(z.pairs(2, 2, 0, 1, 1), 4, "pairs of what is refused");
        due(z.pairs(2, 2, 0, 1, 2), 8, "pairs of what is refused by two cuts");
        hold(z, 0, "0", "0");
        due(z.pairs(1, 1, 0, 1, 2), 2, "pairs of a box that cannot be cut");
        fails(z, INDEX, () -> z.pairs(4, 0, 0, 0, 3), "pairs of no formula");
        fails(z, INDEX, () -> z.pairs(0, -1, 0, 0, 3), "pairs with no formula");
        fails(z, INDEX, () -> z.pairs(0, 0, 10, 0, 3), "pairs of no shelf");
        fails(z, INDEX, () -> z.pairs(0, 0, 0, 10, 3), "pairs with no shelf");
        fails(z, ARGUMENT, () -> z.pairs(3, 3, 7, 7, 3), "pairs by three cuts");
        fails(z, ARGUMENT, () -> z.pairs(3, 3, 7, 7, -1), "pairs by a wrong cut");
        fails(z, NONE, () -> z.pairs(3, 0, 0, 0, 0), "pairs of a formula not defined");
        fails(z, NONE, () -> z.pairs(0, 3, 0, 0, 0), "pairs with a formula not defined");
        fails(z, NONE, () -> z.pairs(0, 0, 7, 0, 0), "pairs of none");
        fails(z, NONE, () -> z.pairs(0, 0, 0, 7, 0), "pairs with none");
    }

    private static void bounds() {
        about("promise 37");
        Boxedvalue x = formula("x^2-2", "-1", "2");
        due(x.least(1, 0, 0, 0), false, "least");
        due(box(x, 1), "-2 -1.75", "its box");
        due(x.least(1, 0, 0, 1), false, "least by one cut");
        // pieces -1 to 0.5 and 0.5 to 2: lows -2, -1.75; at -0.25 -1.9375, at 1.25 -0.4375
        due(box(x, 1), "-2 -1.9375", "its box");
        hold(x, 0, "3", "3");
        due(x.least(1, 0, 0, 3), true, "least of a single box");
        due(box(x, 1), "7 7", "its box");
        boundsCalls("least", (y, s, f, a, c) -> y.least(s, f, a, c));
        about("promise 38");
        x = formula("x-x^2", "0", "1");
        due(x.greatest(1, 0, 0, 0), false, "greatest");
        due(box(x, 1), "0.25 1", "its box");
        due(x.greatest(1, 0, 0, 1), false, "greatest by one cut");
        // pieces 0 to 0.5 and 0.5 to 1: highs 0.5 and 0.75; at 0.25 and at 0.75 0.1875
        due(box(x, 1), "0.1875 0.75", "its box");
        // by no digits 1/3 is told from 0 to 1: the value is 3 at 1, and 1 to 5 at 3
        x = formula("3+(x-1)*(1/3-1/3)", "0", "4");
        x.setDigits(0);
        x.greatest(1, 0, 0, 1);
        due(box(x, 1), "3 6", "greatest of values of different widths");
        x.least(1, 0, 0, 1);
        due(box(x, 1), "0 3", "least of values of different widths");
        boundsCalls("greatest", (y, s, f, a, c) -> y.greatest(s, f, a, c));
        about("promise 39");
        x = formula("x", "0", "1");
        due(x.area(1, 0, 0, 0), false, "area");
        due(box(x, 1), "0 1", "its box");
        due(x.area(1, 0, 0, 1), false, "area by one cut");
        due(box(x, 1), "0.25 0.75", "its box");
        due(x.area(1, 0, 0, 3), false, "area by three cuts");
        due(box(x, 1), "0.4375 0.5625", "its box");
        define(x, 0, "2");
        hold(x, 0, "-1", "3");
        due(x.area(1, 0, 0, 2), true, "area of a number");
        due(box(x, 1), "8 8", "its box");
        hold(x, 0, "-999999999999", "999999999999");
        define(x, 0, "0");
        due(x.area(1, 0, 0, 0), true, "area of 0 over a width too great for a box");
        due(box(x, 1), "0 0", "its box");
        define(x, 0, "0.25");
        due(x.area(1, 0, 0, 0), true, "area over a width too great for a box");
        due(box(x, 1), "499999999999.5 499999999999.5", "its box");
        define(x, 0, "1");
        Boxedvalue y = x;
        fails(x, STATE, () -> y.area(1, 0, 0, 0), "area too great");
        x.setDigits(0);
        hold(x, 0, "0.5", "0.75");
        define(x, 0, "4");
        due(x.area(1, 0, 0, 0), true, "area over a width as it is");
        due(box(x, 1), "1 1", "its box");
        boundsCalls("area", (z, s, f, a, c) -> z.area(s, f, a, c));
        moving();
    }

    private static void boundsCalls(String name, Formula call) {
        Boxedvalue x = formula("x", "1", "2");
        define(x, 1, "x+y");
        define(x, 2, "1/(x-1)");
        define(x, 3, "x*999999999999");
        fails(x, INDEX, () -> call.make(x, 10, 0, 7, 4), name + " onto no shelf");
        fails(x, INDEX, () -> call.make(x, 0, 0, 10, 4), name + " of no shelf");
        fails(x, INDEX, () -> call.make(x, 0, 4, 7, 4), name + " of no formula");
        fails(x, ARGUMENT, () -> call.make(x, 0, 1, 7, 4), name + " by four cuts");
        fails(x, ARGUMENT, () -> call.make(x, 0, 1, 7, -1), name + " by a wrong cut");
        fails(x, NONE, () -> call.make(x, 0, 1, 7, 0), name + " of none with y");
        fails(x, UNSUPPORTED, () -> call.make(x, 0, 1, 0, 0), name + " with y");
        fails(x, REFUSED, () -> call.make(x, 0, 2, 0, 3), name + " of what is refused");
        fails(x, STATE, () -> call.make(x, 0, 3, 0, 3), name + " of what is too great");
        Boxedvalue y = formula("1/(x-1)+999999999999*(2-x)", "1", "4");
        fails(y, REFUSED, () -> call.make(y, 0, 0, 0, 1), name + " refused first");
        Boxedvalue z = formula("999999999999*(x-4)+1/(x-4)", "1", "4");
        fails(z, STATE, () -> call.make(z, 0, 0, 0, 1), name + " too great in the first piece");
        fails(z, NONE, () -> call.make(z, 0, 1, 0, 1), name + " of a formula not defined");
    }

    private static void moving() {
        about("promise 40");
        Boxedvalue x = formula("1", "0", "0");
        due(x.move(1, 0, 0, 500), true, "move by a steady speed");
        due(box(x, 1), "0.5 0.5", "its box");
        due(x.move(1, 0, 0, 1000), true, "move by a whole step");
        due(box(x, 1), "1 1", "its box");
        due(x.move(1, 0, 0, 1), true, "move by the least step");
        due(box(x, 1), "0.001 0.001", "its box");
        define(x, 0, "0*x");
        hold(x, 0, "3", "4");
        due(x.move(1, 0, 0, 1), false, "move by no speed");
        due(box(x, 1), "3 4", "its box");
        // t is 1 to 1.01, then the tube 0.999999 to 1.010001; t is 1 to 1.010101, then the tube
        // 0.999998 to 1.010102; t is 1 to 1.010102; the place is 1 + 0.01 * the tube
        define(x, 0, "x");
        hold(x, 0, "1", "1");
        due(x.move(1, 0, 0, 10), false, "move along x");
        due(box(x, 1), "1.009999 1.010102", "its box");
        x.setDigits(0);
        define(x, 0, "1");
        due(x.move(1, 0, 0, 500), false, "move by no digits, a step as it is");
        due(box(x, 1), "1 2", "its box");
        x.setDigits(6);
        define(x, 0, "x*x");
        hold(x, 0, "5", "5");
        Boxedvalue y = x;
        fails(x, STATE, () -> y.move(1, 0, 0, 1000), "move with no tube");
        define(x, 0, "1/(x-5)");
        fails(x, REFUSED, () -> y.move(1, 0, 0, 1), "move by a speed that is refused");
        hold(x, 0, "999999999999.999999", "999999999999.999999");
        define(x, 0, "0");
        due(x.move(1, 0, 0, 1), true, "move at the greatest number");
        define(x, 0, "1");
        fails(x, STATE, () -> y.move(1, 0, 0, 1), "move beyond it");
        define(x, 0, "0.000001");
        hold(x, 0, "999999999999.999998", "999999999999.999998");
        fails(x, STATE, () -> y.move(1, 0, 0, 1), "a tube that is too great");
        define(x, 1, "y");
        fails(x, INDEX, () -> y.move(10, 2, 7, 0), "move onto no shelf");
        fails(x, INDEX, () -> y.move(1, 2, 10, 0), "move of no shelf");
        fails(x, INDEX, () -> y.move(1, 4, 7, 0), "move of no formula");
        fails(x, ARGUMENT, () -> y.move(1, 2, 7, 0), "move by no step");
        fails(x, ARGUMENT, () -> y.move(1, 2, 7, 1001), "move by a step too long");
        fails(x, NONE, () -> y.move(1, 2, 0, 1), "move of a formula not defined");
        fails(x, NONE, () -> y.move(1, 1, 7, 1), "move of none with y");
        fails(x, UNSUPPORTED, () -> y.move(1, 1, 0, 1), "move with y");
    }

    private static void figures() {
        about("promise 41");
        Boxedvalue x = new Boxedvalue();
        due(x.held(), 0, "held");
        x.put(0, 1, 0);
        x.put(9, 1, 0);
        x.put(9, 2, 0);
        due(x.held(), 2, "held");
        x.undo();
        due(x.held(), 2, "held behind undo");
        x.undo();
        due(x.held(), 1, "held behind undo");
        about("promise 42");
        Boxedvalue y = new Boxedvalue();
        long sum = 7 * 31 + 6;
        for (int i = 0; i < 10; i++) {
            sum *= 31;
        }
        due(y.checksum(), sum, "checksum of a new object");
        y.type('x');
        due(y.checksum(), sum * 31 + 'x', "checksum with a text");
        y.erase();
        y.setDigits(1);
        hold(y, 3, "-0.25", "10");
        y.erase();
        sum = 7 * 31 + 1;
        for (int i = 0; i < 10; i++) {
            sum = sum * 31 + (i == 3 || i == 9 ? 1 : 0);
            for (char sign : (i == 3 ? "-0.2510" : i == 9 ? "1010" : "").toCharArray()) {
                sum = sum * 31 + sign;
            }
        }
        due(y.checksum(), sum, "checksum with boxes");
        about("promise 43");
        due(new Boxedvalue().isSound(), true, "isSound of a new object");
        for (int digits = 0; digits <= 10; digits++) {
            Boxedvalue z = with("-1.5", "2.25", "0.1", "0.1", "1", "3", "0", "999999999999");
            define(z, 0, "x^2-2*y+1/3");
            define(z, 1, "r(x)+l(x)*a(y)-ex");
            define(z, 2, "1/x");
            define(z, 3, "p*x^9");
            z.setDigits(digits);
            long before = z.checksum();
            due(z.isSound(), true, "isSound by " + digits + " digits");
            due(z.checksum(), before, "the checksum behind isSound");
            z.put(5, 5, 11);
            due(high(z, 5), digits == 10 ? "0.0000000001" : digits == 0 ? "1"
                    : "0." + "0".repeat(digits - 1) + "1", "the digits behind isSound");
        }
    }

    public static void main(String[] args) {
        digitsAndText();
        putting();
        reading();
        boxes();
        undoing();
        acts();
        powers();
        applying();
        solving();
        defining();
        values();
        deciding();
        zeros();
        narrowing();
        bounds();
        figures();
        tell("PromisesTest");
    }
}
