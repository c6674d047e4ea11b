/** How the class is used: README.md has this program and what it prints. */
public final class Example {
    private Example() { }

    private static void type(Boxedvalue x, String text) {
        x.erase();
        for (char sign : text.toCharArray()) {
            x.type(sign);
        }
    }

    private static String text(Boxedvalue x, int signs) {
        StringBuilder text = new StringBuilder();
        for (int i = 0; i < signs; i++) {
            text.append(x.signAt(i));
        }
        return text.toString();
    }

    private static void show(String what, Boxedvalue x, int shelf) {
        System.out.println(what + ": " + text(x, x.low(shelf)) + " to " + text(x, x.high(shelf)));
    }

    public static void main(String[] args) {
        Boxedvalue x = new Boxedvalue();
        x.put(0, 1, 0);
        x.put(1, 314, 2);
        type(x, "-0.75");
        x.read(2);
        x.divide(3, 0, 1);
        show("1 / 3.14", x, 3);
        x.apply(3, 2, 'e');
        show("e to the power of -0.75", x, 3);
        x.undo();
        show("what was there ahead of it", x, 3);

        x.join(4, 0, 1);
        show("the least box around 1 and 3.14", x, 4);
        type(x, "x^2-2");
        System.out.println("the formula has " + x.define(0) + " parts");
        x.value(5, 0, 4, 4);
        show("its value there", x, 5);
        x.slope(5, 0, 4, 4);
        show("its slope there", x, 5);
        System.out.println("it has " + x.zeros(0, 4, 3) + " piece of kind " + x.pieceKind(0));
        x.piece(6, 0);
        show("that piece", x, 6);
        x.setDigits(10);
        for (int i = 0; i < 5; i++) {
            x.narrow(6, 0, 6);
        }
        show("its zero", x, 6);
        System.out.println(x.sure(6) + " digits of it are sure");
        x.area(7, 0, 4, 3);
        show("the area below it", x, 7);
        try {
            x.divide(8, 0, 7);
            type(x, "1/(x-2)");
            x.define(1);
            x.value(8, 1, 4, 4);
        } catch (ArithmeticException refused) {
            System.out.println("refused: the box by which is divided holds 0");
        }
        show("and nothing is changed by that", x, 8);
    }
}
