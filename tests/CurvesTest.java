/** Single acts over numbers of all sizes, and near the edges, told by all digits: as the model does. */
public final class CurvesTest {
    private static final String[] EDGES = {
        "0", "0.0000000001", "0.0000000002", "0.9999999999", "1", "1.0000000001", "1.0000000002",
        "0.5", "2", "0.0625", "0.4375", "1.4375", "27", "27.6310211159", "27.6310211160",
        "27.99", "28", "29.9999999999", "30", "30.0000000001", "31", "999999999999.9999999999",
        "999999999998", "1000000", "999999.9999999999", "1000000.0000000001", "1024", "81", "64",
        "4", "9", "0.04", "0.008", "0.0016", "0.0081", "10000000000", "100000000", "0.25",
        "21.5443469003", "21.5443469004", "16", "1.9375", "1.96875", "3.99999", "549755813888",
        "0.3333333333", "3.3333333333", "1.5707963267", "3.1415926535",
        "2.7182818284", "2.7182818285", "23.0258509299", "0.1", "0.01", "1000", "999", "0.125",
        "0.8125", "0.9375", "1.0625", "500000000000", "707106.7811865475", "100000000000",
    };
    private static long state = 7;
    private static int wrong;
    private static int calls;

    private CurvesTest() { }

    private static int next(int bound) {
        state = state * 6364136223846793005L + 1442695040888963407L;
        return (int) ((state >>> 33) % bound);
    }

    private static String number() {
        StringBuilder text = new StringBuilder();
        int size = next(22) + 1;
        for (int i = 0; i < size; i++) {
            text.append((char) ('0' + next(10)));
        }
        while (text.length() < 11) {
            text.insert(0, '0');
        }
        return text.insert(text.length() - 10, '.').toString();
    }

    private static void hold(Boxedvalue x, Model m, int shelf, String text) {
        x.erase();
        m.erase();
        for (char sign : text.toCharArray()) {
            x.type(sign);
            m.type(sign);
        }
        if (x.read(shelf) != m.read(shelf)) {
            say("read " + text);
        }
    }

    private static void say(String text) {
        wrong++;
        if (wrong < 40) {
            System.out.println(text + " is not as due");
        }
    }

    private static void all(String low, String high, boolean isWhole) {
        Boxedvalue x = new Boxedvalue();
        Model m = new Model();
        x.setDigits(10);
        m.setDigits(10);
        hold(x, m, 0, low);
        hold(x, m, 1, high);
        x.join(0, 0, 1);
        m.join(0, 0, 1);
        for (int digits = 0; digits <= 10; digits += isWhole ? 1 : 5) {
            x.setDigits(digits);
            m.setDigits(digits);
            for (int act = 0; act < 22; act++) {
                calls++;
                String due = answerOf(m, act);
                String got = answerOf(x, act);
                if (!due.equals(got) || x.checksum() != m.checksum()) {
                    say("act " + act + " of " + low + " .. " + high + " by " + digits + " digits: "
                            + got + " for " + due);
                }
            }
        }
    }

    private static String answerOf(Boxedvalue x, int act) {
        try {
            if (act < 10) {
                return "" + x.power(2, 0, act);
            }
            if (act < 13) {
                return "" + x.root(2, 0, act - 8);
            }
            if (act < 18) {
                return "" + x.apply(2, 0, "-bela".charAt(act - 13));
            }
            return "" + (act == 18 ? x.divide(2, 0, 1) : act == 19 ? x.multiply(2, 0, 1)
                    : act == 20 ? x.divide(2, 1, 0) : x.subtract(2, 1, 0));
        } catch (ArithmeticException | IllegalStateException thrown) {
            return thrown.getClass().getSimpleName();
        }
    }

    private static String answerOf(Model x, int act) {
        try {
            if (act < 10) {
                return "" + x.power(2, 0, act);
            }
            if (act < 13) {
                return "" + x.root(2, 0, act - 8);
            }
            if (act < 18) {
                return "" + x.apply(2, 0, "-bela".charAt(act - 13));
            }
            return "" + (act == 18 ? x.divide(2, 0, 1) : act == 19 ? x.multiply(2, 0, 1)
                    : act == 20 ? x.divide(2, 1, 0) : x.subtract(2, 1, 0));
        } catch (ArithmeticException | IllegalStateException thrown) {
            return thrown.getClass().getSimpleName();
        }
    }

    public static void main(String[] args) {
        for (String edge : EDGES) {
            String other = EDGES[next(EDGES.length)];
            all(edge, edge, true);
            all("-" + edge, "-" + edge, true);
            all("-" + edge, edge, false);
            all(edge, other, true);
            all("-" + other, "-" + edge, false);
        }
        int rounds = args.length > 0 ? Integer.parseInt(args[0]) : 1500;
        for (int i = 0; i < rounds; i++) {
            String low = (next(3) == 0 ? "-" : "") + number();
            String high = next(2) == 0 ? low : (next(4) == 0 ? "-" : "") + number();
            all(low, high, i % 8 == 0);
        }
        System.out.println("CurvesTest: " + (wrong == 0 ? calls + " answers are as due"
                : wrong + " answers are not as due"));
        if (wrong != 0) {
            System.exit(1);
        }
    }
}
