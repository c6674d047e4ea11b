import java.lang.management.ManagementFactory;
import java.lang.reflect.Array;
import java.lang.reflect.Field;
import java.lang.reflect.Modifier;
import java.util.ArrayDeque;
import java.util.Collections;
import java.util.IdentityHashMap;
import java.util.Set;

/** What lives in the room: one object makes its rows once, and calls make nothing but exceptions. */
public final class RoomTest {
    private static final int MOST_OBJECTS = 1_500;
    private static final int MOST_ELEMENTS = 10_000;
    private static int wrong;

    private RoomTest() { }

    private static void check(boolean isFine, String what) {
        System.out.println("RoomTest: " + what);
        if (!isFine) {
            wrong++;
            System.out.println("RoomTest: that is too much");
        }
    }

    private static void define(Boxedvalue x, int formula, String text) {
        x.erase();
        for (int i = 0; i < text.length(); i++) {
            x.type(text.charAt(i));
        }
        x.define(formula);
    }

    private static Boxedvalue filled() {
        Boxedvalue x = new Boxedvalue();
        for (int i = 0; i < 10; i++) {
            x.put(i, 11 + i, 1);
            x.put((i + 1) % 10, 15 + i, 1);
            x.join(i, i, (i + 1) % 10);
        }
        define(x, 0, "x*lx+ax-rx/(1+x^2)+e(x/7)-2.5");
        define(x, 1, "x^3-x^2+p*x-1/3+l(x+2)*a(x-1)/r(x+4)");
        define(x, 2, "((((x-1)*x+2)*x-3)*x+4)*x-5");
        define(x, 3, "x*y+r(x^2+y^2)-e(-y)");
        return x;
    }

    private static long callAll(Boxedvalue x, int rounds) {
        long sum = 0;
        for (int i = 0; i < rounds; i++) {
            int f = i % 3;
            sum += x.zeros(f, 1, 3) + x.pairs(f, 3, 1, 2, 2) + x.decide(f, 3, 2);
            sum += (x.least(5, f, 1, 3) ? 1 : 0) + (x.greatest(5, f, 1, 3) ? 1 : 0);
            sum += (x.area(5, f, 1, 3) ? 1 : 0) + (x.slope(5, f, 1, 2) ? 1 : 0);
            sum += (x.isSound() ? 1 : 0) + x.checksum() + x.low(5) + x.undo() + x.held();
            sum += (x.root(5, 1, 3) ? 1 : 0) + (x.power(5, 1, 9) ? 1 : 0) + (x.put(5, i, 3) ? 1 : 0);
            define(x, f, i % 2 == 0 ? "x^2-2*x+l(x)" : "(x+1)*(x-2)/(x^2+3)-ex");
        }
        return sum;
    }

    private static long room(Object root) throws IllegalAccessException {
        Set<Object> seen = Collections.newSetFromMap(new IdentityHashMap<>());
        ArrayDeque<Object> left = new ArrayDeque<>();
        left.add(root);
        seen.add(root);
        long elements = 0;
        while (!left.isEmpty()) {
            Object object = left.remove();
            if (object.getClass().isArray()) {
                int length = Array.getLength(object);
                elements += length;
                for (int i = 0; i < length && object instanceof Object[]; i++) {
                    add(((Object[]) object)[i], seen, left);
                }
                continue;
            }
            for (Field field : object.getClass().getDeclaredFields()) {
                if (!Modifier.isStatic(field.getModifiers())) {
                    elements++;
                    field.setAccessible(true);
                    if (!field.getType().isPrimitive()) {
                        add(field.get(object), seen, left);
                    }
                }
            }
        }
        check(seen.size() <= MOST_OBJECTS, "an object of the class is " + seen.size() + " objects");
        check(elements <= MOST_ELEMENTS, "they have " + elements + " fields and elements");
        return elements;
    }

    private static void add(Object object, Set<Object> seen, ArrayDeque<Object> left) {
        if (object != null && seen.add(object)) {
            left.add(object);
        }
    }

    public static void main(String[] args) throws IllegalAccessException {
        Boxedvalue x = filled();
        room(x);
        callAll(x, 3);
        Boxedvalue y = filled();
        com.sun.management.ThreadMXBean bean =
                (com.sun.management.ThreadMXBean) ManagementFactory.getThreadMXBean();
        long id = Thread.currentThread().getId();
        bean.getThreadAllocatedBytes(id);
        long before = bean.getThreadAllocatedBytes(id);
        callAll(y, 12);
        long made = bean.getThreadAllocatedBytes(id) - before;
        check(made < 5_000, "some 500 calls made " + made + " bytes");
        if (wrong != 0) {
            System.exit(1);
        }
    }
}
