import java.math.BigInteger;
import java.util.ArrayList;
import java.util.LinkedHashSet;
import java.util.List;

/**
 * The grammar of the formulas, written down as rules and followed by Earley's way, which knows of
 * each sign whether it can stand where it does: another way to the faults than that of the class.
 * Then formulas that are written out from trees whose numbers are known.
 */
public final class GrammarTest extends Bench {
    private static final int MOST_SIGNS = 60;
    private static final int MOST_DIGITS = 12;
    private static final String[] CLASSES = {"+-", "*/", "^", "0123456789", "xyp", "-rela", "(", ")", "."};
    private static final String SHORT = "1.y-l*^() ";
    private static final String ALL = "0123456789.xyp+-*/^()rela @~RXY,_";
    private static final int MOST_CALLS = 512;
    private static long state = 7;
    private static Boxedvalue shared = new Boxedvalue();
    private static int calls;

    /** What stands to the left of a rule, and to its right: rules from 0, classes of signs from -1 down. */
    private record Rule(int left, int... right) { }

    private record Item(Rule rule, int dot, int start) {
        boolean isWhole() {
            return dot == rule.right().length;
        }

        int next() {
            return rule.right()[dot];
        }

        Item moved() {
            return new Item(rule, dot + 1, start);
        }
    }

    private static final int SUM = 0;
    private static final int PRODUCT = 1;
    private static final int POWER = 2;
    private static final int ATOM = 3;
    /** So many digits have been read, ahead of the point, just behind it, or behind it. */
    private static final int AHEAD = 10;
    private static final int POINT = 30;
    private static final int BEHIND = 50;
    private static final List<Rule> RULES = new ArrayList<>();

    private GrammarTest() { }

    private static int signs(String which) {
        return -1 - List.of(CLASSES).indexOf(which);
    }

    private static void rule(int left, int... right) {
        RULES.add(new Rule(left, right));
    }

    private static void writeRules() {
        rule(SUM, PRODUCT);
        rule(SUM, SUM, signs("+-"), PRODUCT);
        rule(PRODUCT, POWER);
        rule(PRODUCT, PRODUCT, signs("*/"), POWER);
        rule(POWER, ATOM);
        rule(POWER, ATOM, signs("^"), signs("0123456789"));
        rule(ATOM, AHEAD);
        rule(ATOM, signs("xyp"));
        rule(ATOM, signs("-rela"), ATOM);
        rule(ATOM, signs("("), SUM, signs(")"));
        for (int i = 0; i <= MOST_DIGITS; i++) {
            if (i < MOST_DIGITS) {
                rule(AHEAD + i, signs("0123456789"), AHEAD + i + 1);
                rule(POINT + i, signs("0123456789"), BEHIND + i + 1);
                rule(BEHIND + i, signs("0123456789"), BEHIND + i + 1);
            }
            if (i > 0) {
                rule(AHEAD + i);
                rule(AHEAD + i, signs("."), POINT + i);
                rule(BEHIND + i);
            }
        }
    }

    /** All items that follow from some of them at the last place. */
    private static void complete(List<LinkedHashSet<Item>> places) {
        int place = places.size() - 1;
        LinkedHashSet<Item> items = places.get(place);
        int before = -1;
        while (items.size() != before) {
            before = items.size();
            for (Item item : List.copyOf(items)) {
                if (item.isWhole()) {
                    for (Item waiting : List.copyOf(places.get(item.start()))) {
                        if (!waiting.isWhole() && waiting.next() == item.rule().left()) {
                            items.add(waiting.moved());
                        }
                    }
                } else if (item.next() >= 0) {
                    for (Rule rule : RULES) {
                        if (rule.left() == item.next()) {
                            items.add(new Item(rule, 0, place));
                        }
                    }
                }
            }
        }
    }

    private static List<LinkedHashSet<Item>> begin() {
        List<LinkedHashSet<Item>> places = new ArrayList<>();
        places.add(new LinkedHashSet<>());
        for (Rule rule : RULES) {
            if (rule.left() == SUM) {
                places.get(0).add(new Item(rule, 0, 0));
            }
        }
        complete(places);
        return places;
    }

    /** Goes on by a sign, or answers false if it cannot stand there. */
    private static boolean takes(List<LinkedHashSet<Item>> places, char sign) {
        LinkedHashSet<Item> next = new LinkedHashSet<>();
        for (Item item : places.get(places.size() - 1)) {
            if (!item.isWhole() && item.next() < 0 && CLASSES[-1 - item.next()].indexOf(sign) >= 0) {
                next.add(item.moved());
            }
        }
        if (next.isEmpty()) {
            return false;
        }
        places.add(next);
        complete(places);
        return true;
    }

    private static boolean canEnd(List<LinkedHashSet<Item>> places) {
        for (Item item : places.get(places.size() - 1)) {
            if (item.isWhole() && item.start() == 0 && item.rule().left() == SUM) {
                return true;
            }
        }
        return false;
    }

    private static int partsOf(String text) {
        int parts = 0;
        for (int i = 0; i < text.length(); i++) {
            boolean isDigit = "0123456789.".indexOf(text.charAt(i)) >= 0;
            boolean isFirst = i == 0 || "0123456789.^".indexOf(text.charAt(i - 1)) < 0;
            if (isDigit ? isFirst : "()".indexOf(text.charAt(i)) < 0) {
                parts++;
            }
        }
        return parts;
    }

    /** The text is defined, the answer being known but for the parts; objects are used again. */
    private static void isDue(String text, int fault) {
        if (text.length() > MOST_SIGNS) {
            return;
        }
        calls += text.length() + 5;
        if (calls > MOST_CALLS) {
            shared = new Boxedvalue();
            calls = text.length() + 5;
        }
        Boxedvalue x = shared;
        int formula = calls % 3;
        Object before = answer(() -> x.hasY(formula));
        type(x, text);
        due(x.define(formula), fault >= 0 ? -1 - fault : partsOf(text), "define of " + text);
        due(x.erase(), 0, "the text behind define of " + text);
        due(answer(() -> x.hasY(formula)), fault < 0 ? text.indexOf('y') >= 0 : before,
                "hasY behind define of " + text);
    }

    /** Each text of so many signs that begins like that, and a few behind each first fault. */
    private static void all(String text, List<LinkedHashSet<Item>> places, int more) {
        isDue(text, canEnd(places) ? -1 : text.length());
        if (more == 0) {
            return;
        }
        for (char sign : SHORT.toCharArray()) {
            if (takes(places, sign)) {
                all(text + sign, places, more - 1);
                places.remove(places.size() - 1);
            } else {
                isDue(text + sign, text.length());
                if (more == 3) {
                    isDue(text + sign + "y", text.length());
                    isDue(text + sign + ")*(", text.length());
                }
            }
        }
    }

    private static int next(int bound) {
        state = state * 6364136223846793005L + 1442695040888963407L;
        return (int) ((state >>> 33) % bound);
    }

    /** A text of signs that can stand, so long as that goes, with perhaps one that cannot. */
    private static void walk(int length, String signs) {
        List<LinkedHashSet<Item>> places = begin();
        StringBuilder text = new StringBuilder();
        int tries = 0;
        while (text.length() < length && tries < 1000) {
            tries++;
            char sign = signs.charAt(next(signs.length()));
            if (takes(places, sign)) {
                text.append(sign);
            } else if (next(400) == 0) {
                isDue(text.toString() + sign, text.length());
                isDue(text.toString() + sign + "+1", text.length());
            }
        }
        isDue(text.toString(), canEnd(places) ? -1 : text.length());
    }

    // ---- trees

    /**
     * A formula whose number is known at x = 3, with the greatest number without its sign that comes
     * about on the way; how strongly it binds tells what parentheses it needs.
     */
    private record Tree(String text, BigInteger number, BigInteger most, int binding) {
        String within(int least) {
            return binding < least || next(8) == 0 ? "(" + text + ")" : text;
        }
    }

    private static Tree leaf(String text, int number) {
        return new Tree(text, BigInteger.valueOf(number), BigInteger.valueOf(number), 4);
    }

    private static Tree made(String text, BigInteger number, int binding, Tree left, Tree right) {
        return new Tree(text, number, number.abs().max(left.most).max(right.most), binding);
    }

    private static Tree tree(int depth) {
        if (depth == 0 || next(5) == 0) {
            int number = next(12);
            return next(2) == 0 ? leaf("x", 3) : leaf("" + number, number);
        }
        Tree left = tree(depth - 1);
        Tree right = tree(depth - 1);
        BigInteger a = left.number;
        BigInteger b = right.number;
        switch (next(5)) {
            case 0:
                return made(left.within(1) + "+" + right.within(2), a.add(b), 1, left, right);
            case 1:
                return made(left.within(1) + "-" + right.within(2), a.subtract(b), 1, left, right);
            case 2:
                return made(left.within(2) + "*" + right.within(3), a.multiply(b), 2, left, right);
            case 3:
                int exponent = next(4);
                return made(left.within(4) + "^" + exponent, a.pow(exponent), 3, left, left);
            default:
                return made("-" + left.within(4), a.negate(), 4, left, left);
        }
    }

    private static void trees() {
        about("the value of what is written out from a tree");
        BigInteger limit = BigInteger.TEN.pow(12);
        for (int i = 0; i < 20_000; i++) {
            Tree tree = tree(1 + i % 4);
            if (tree.text.length() > MOST_SIGNS) {
                continue;
            }
            Boxedvalue x = formula(tree.text, "3", "3");
            boolean isTooGreat = tree.most.compareTo(limit) >= 0;
            due(answer(() -> x.value(1, 0, 0, 0)), isTooGreat ? IllegalStateException.class : true,
                    tree.text);
            if (!isTooGreat) {
                due(box(x, 1), tree.number + " " + tree.number, tree.text);
            }
        }
    }

    public static void main(String[] args) {
        writeRules();
        about("all short texts");
        all("", begin(), 6);
        about("long texts");
        for (int i = 0; i < 400; i++) {
            walk(1 + next(MOST_SIGNS), ALL);
            walk(1 + next(30), "0123456789.+");
            walk(MOST_SIGNS, "((x)^2-e.");
        }
        trees();
        tell("GrammarTest");
    }
}
