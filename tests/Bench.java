/** What the tests that are worked out by hand share: counting answers, and short ways to call. */
abstract class Bench {
    private static int wrong;
    private static int checks;
    /** What the checks that follow are about, as a fault tells it. */
    private static String about = "";

    interface Call {
        Object make();
    }

    static void about(String what) {
        about = what;
    }

    static void due(Object got, Object want, String what) {
        checks++;
        if (!String.valueOf(got).equals(String.valueOf(want))) {
            wrong++;
            System.out.println(about + ": " + what + " answered " + got + ", due is " + want);
        }
    }

    /** What a call answers, or the class of what it throws. */
    static Object answer(Call call) {
        try {
            return call.make();
        } catch (RuntimeException thrown) {
            return thrown.getClass();
        }
    }

    /** The call throws just that, and changes nothing that the checksum tells. */
    static void fails(Boxedvalue x, Class<?> want, Call call, String what) {
        long before = x.checksum();
        due(answer(call), want, what);
        due(x.checksum(), before, "the checksum behind " + what);
    }

    static Boxedvalue type(Boxedvalue x, String text) {
        x.erase();
        for (char sign : text.toCharArray()) {
            x.type(sign);
        }
        return x;
    }

    static String signs(Boxedvalue x, int count) {
        StringBuilder text = new StringBuilder();
        for (int i = 0; i < count; i++) {
            text.append(x.signAt(i));
        }
        return text.toString();
    }

    static String low(Boxedvalue x, int shelf) {
        return signs(x, x.low(shelf));
    }

    static String high(Boxedvalue x, int shelf) {
        return signs(x, x.high(shelf));
    }

    static String box(Boxedvalue x, int shelf) {
        return low(x, shelf) + " " + high(x, shelf);
    }

    /** Lets a shelf be a box by ten digits, whatever digits there are; keeps three calls. */
    static void hold(Boxedvalue x, int shelf, String low, String high) {
        int spare = shelf == 9 ? 8 : 9;
        int digits = x.setDigits(10);
        type(x, low).read(shelf);
        if (!low.equals(high)) {
            type(x, high).read(spare);
            x.join(shelf, shelf, spare);
        }
        x.setDigits(digits);
    }

    /** A new object whose shelves hold boxes from these low bounds to these high ones. */
    static Boxedvalue with(String... bounds) {
        Boxedvalue x = new Boxedvalue();
        for (int i = 0; i < bounds.length; i += 2) {
            hold(x, i / 2, bounds[i], bounds[i + 1]);
        }
        return x;
    }

    static void define(Boxedvalue x, int formula, String text) {
        if (type(x, text).define(formula) < 0) {
            throw new IllegalStateException("a test's formula has a fault: " + text);
        }
    }

    /** A new object with a formula and a box, both numbered 0. */
    static Boxedvalue formula(String text, String low, String high) {
        Boxedvalue x = with(low, high);
        define(x, 0, text);
        return x;
    }

    /** Tells how the checks came out; ends the program with exit code 1 if one was wrong. */
    static void tell(String test) {
        System.out.println(test + ": " + (wrong == 0 ? checks + " answers are as due"
                : wrong + " answers are not as due"));
        if (wrong != 0) {
            System.exit(1);
        }
    }
}
