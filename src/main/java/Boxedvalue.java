import java.util.NoSuchElementException;

/**
 * Answers between two bounds: ten shelves of boxes, four formulas, one text. Every answer is told
 * outward, so that the true number never leaves its box.
 */
public final class Boxedvalue {
    private static final int SHELF_COUNT = 10;
    private static final int FORMULA_COUNT = 4;
    private static final int FIRST_DIGITS = 6;
    private static final int MOST_DIGITS = 10;
    private static final int MOST_SIGNS = 60;
    private static final int MOST_KEPT = 12;
    private static final int MOST_CUTS = 3;
    private static final int MOST_PAIR_CUTS = 2;
    private static final int MOST_PIECES = 8;
    private static final int MOST_TUBES = 8;
    private static final int MOST_STEP = 1000;
    private static final int MOST_SCALE = 18;
    private static final int MOST_EXPONENT = 9;
    private static final int GREATER = 20;

    /** A part of ONE makes a whole: bounds have at most ten digits behind the point. */
    private static final long ONE = 10_000_000_000L;
    private static final long LIMIT = 1_000_000_000_000L;
    /** Stands for whatever is too great to be told. */
    private static final long BEYOND = 10 * LIMIT;

    /** What making a box comes to; a status, since a search must go on behind a refusal. */
    private static final int FINE = 0;
    private static final int REFUSED = 1;
    private static final int TOO_GREAT = 2;

    /** Acts and leaves of formulas that have no sign of their own in a text. */
    private static final char NUMBER = '#';
    private static final char NEGATIVE = '~';
    private static final char CONSTANT_E = 'E';

    private static final char OPEN = '?';
    private static final char ONE_ZERO = '1';
    private static final char NO_ZERO = ' ';

    private static final long[] TENS = {
        1L, 10L, 100L, 1_000L, 10_000L, 100_000L, 1_000_000L, 10_000_000L, 100_000_000L,
        1_000_000_000L, 10_000_000_000L, 100_000_000_000L, 1_000_000_000_000L,
        10_000_000_000_000L, 100_000_000_000_000L, 1_000_000_000_000_000L,
        10_000_000_000_000_000L, 100_000_000_000_000_000L, 1_000_000_000_000_000_000L,
    };

    private int digits;
    private final Text text;
    private final Text spareText;
    private final Shelves shelves;
    private final Machine machine;
    private final Formula[] formulas;
    private Formula spareFormula;
    private final Pieces found;
    private final Pieces pending;
    private final Pieces parts;
    private final Pieces otherParts;
    private final Box first;
    private final Box second;
    private final Box third;
    private final Box fourth;
    private final Bound span;
    private final Bound otherSpan;

    public Boxedvalue() {
        digits = FIRST_DIGITS;
        text = new Text();
        spareText = new Text();
        shelves = new Shelves();
        machine = new Machine();
        machine.useDigits(FIRST_DIGITS);
        formulas = new Formula[FORMULA_COUNT];
        for (int i = 0; i < FORMULA_COUNT; i++) {
            formulas[i] = new Formula();
        }
        spareFormula = new Formula();
        found = new Pieces();
        pending = new Pieces();
        parts = new Pieces();
        otherParts = new Pieces();
        first = new Box();
        second = new Box();
        third = new Box();
        fourth = new Box();
        span = new Bound();
        otherSpan = new Bound();
    }

    // ---- digits, the text

    public int setDigits(int digits) throws IllegalArgumentException {
        if (digits < 0 || digits > MOST_DIGITS) {
            throw new IllegalArgumentException("digits are 0 to 10");
        }
        int before = this.digits;
        this.digits = digits;
        machine.useDigits(digits);
        return before;
    }

    public int digits() {
        return digits;
    }

    public int type(char sign) throws IllegalArgumentException, IllegalStateException {
        if (sign < 32 || sign > 126) {
            throw new IllegalArgumentException("no such sign");
        }
        if (text.count >= MOST_SIGNS) {
            throw new IllegalStateException("the text is full");
        }
        text.append(sign);
        return text.count;
    }

    public int erase() {
        int before = text.count;
        text.clear();
        return before;
    }

    public char signAt(int place) throws IllegalArgumentException {
        if (place < 0 || place >= text.count) {
            throw new IllegalArgumentException("no such place");
        }
        return text.at(place);
    }

    // ---- boxes

    public boolean put(int shelf, long number, int scale)
            throws IndexOutOfBoundsException, IllegalArgumentException, IllegalStateException {
        checkShelf(shelf);
        if (scale < 0 || scale > MOST_SCALE) {
            throw new IllegalArgumentException("the scale is 0 to 18");
        }
        machine.clear();
        return become(shelf, machine.make(NUMBER, number, scale));
    }

    public boolean read(int shelf)
            throws IndexOutOfBoundsException, IllegalArgumentException, IllegalStateException {
        checkShelf(shelf);
        if (!text.isNumber()) {
            throw new IllegalArgumentException("the text is no number");
        }
        machine.clear();
        boolean isSingle = become(shelf, machine.makeFrom(text));
        text.clear();
        return isSingle;
    }

    public boolean constant(int shelf, char which)
            throws IndexOutOfBoundsException, IllegalArgumentException {
        checkShelf(shelf);
        if (which != 'p' && which != 'e') {
            throw new IllegalArgumentException("the constants are p and e");
        }
        machine.clear();
        return become(shelf, machine.make(which == 'p' ? 'p' : CONSTANT_E, 0L, 0));
    }

    public boolean join(int shelf, int a, int b)
            throws IndexOutOfBoundsException, NoSuchElementException {
        checkShelves(shelf, a, b);
        checkHeld(a);
        checkHeld(b);
        first.copy(shelves.box(a));
        first.embrace(shelves.box(b));
        return fill(shelf, first);
    }

    public boolean meet(int shelf, int a, int b)
            throws IndexOutOfBoundsException, NoSuchElementException {
        checkShelves(shelf, a, b);
        checkHeld(a);
        checkHeld(b);
        first.copy(shelves.box(a));
        if (!first.cutDownTo(shelves.box(b))) {
            throw new NoSuchElementException("the boxes have no number in common");
        }
        return fill(shelf, first);
    }

    public int low(int shelf) throws IndexOutOfBoundsException, NoSuchElementException {
        checkShelf(shelf);
        checkHeld(shelf);
        text.write(shelves.box(shelf).low);
        return text.count;
    }

    public int high(int shelf) throws IndexOutOfBoundsException, NoSuchElementException {
        checkShelf(shelf);
        checkHeld(shelf);
        text.write(shelves.box(shelf).high);
        return text.count;
    }

    public int width(int shelf) throws IndexOutOfBoundsException, NoSuchElementException {
        checkShelf(shelf);
        checkHeld(shelf);
        Box box = shelves.box(shelf);
        span.toDifference(box.high, box.low);
        text.write(span);
        return text.count;
    }

    public boolean isWithin(int a, int b)
            throws IndexOutOfBoundsException, NoSuchElementException {
        checkPair(a, b);
        return shelves.box(a).liesIn(shelves.box(b));
    }

    public int compare(int a, int b) throws IndexOutOfBoundsException, NoSuchElementException {
        checkPair(a, b);
        Box one = shelves.box(a);
        Box other = shelves.box(b);
        if (one.high.isBelow(other.low)) {
            return -1;
        }
        if (other.high.isBelow(one.low)) {
            return 1;
        }
        boolean isSame = one.isSingle() && other.isSingle();
        return isSame ? 0 : 2;
    }

    public int sure(int shelf) throws IndexOutOfBoundsException, NoSuchElementException {
        checkShelf(shelf);
        checkHeld(shelf);
        Box box = shelves.box(shelf);
        for (int many = MOST_DIGITS; many >= 0; many--) {
            span.copy(box.low);
            span.roundDown(unitOf(many));
            otherSpan.copy(box.high);
            otherSpan.roundDown(unitOf(many));
            if (span.against(otherSpan) == 0) {
                return many;
            }
        }
        return -1;
    }

    public int undo() throws NoSuchElementException {
        int shelf = shelves.takeBack();
        if (shelf < 0) {
            throw new NoSuchElementException("no call is kept");
        }
        return shelf;
    }

    // ---- acts

    public boolean add(int shelf, int a, int b)
            throws IndexOutOfBoundsException, NoSuchElementException, IllegalStateException {
        return combine(shelf, a, b, '+');
    }

    public boolean subtract(int shelf, int a, int b)
            throws IndexOutOfBoundsException, NoSuchElementException, IllegalStateException {
        return combine(shelf, a, b, '-');
    }

    public boolean multiply(int shelf, int a, int b)
            throws IndexOutOfBoundsException, NoSuchElementException, IllegalStateException {
        return combine(shelf, a, b, '*');
    }

    public boolean divide(int shelf, int a, int b)
            throws IndexOutOfBoundsException, NoSuchElementException, ArithmeticException,
            IllegalStateException {
        return combine(shelf, a, b, '/');
    }

    public boolean power(int shelf, int a, int exponent)
            throws IndexOutOfBoundsException, IllegalArgumentException, NoSuchElementException,
            IllegalStateException {
        checkShelf(shelf);
        checkShelf(a);
        if (exponent < 0 || exponent > MOST_EXPONENT) {
            throw new IllegalArgumentException("the exponent is 0 to 9");
        }
        return change(shelf, a, '^', exponent);
    }

    public boolean root(int shelf, int a, int by)
            throws IndexOutOfBoundsException, IllegalArgumentException, NoSuchElementException,
            ArithmeticException {
        checkShelf(shelf);
        checkShelf(a);
        if (by < 2 || by > 4) {
            throw new IllegalArgumentException("a root is by 2 to 4");
        }
        return change(shelf, a, 'r', by);
    }

    public boolean apply(int shelf, int a, char act)
            throws IndexOutOfBoundsException, IllegalArgumentException, NoSuchElementException,
            ArithmeticException, IllegalStateException {
        checkShelf(shelf);
        checkShelf(a);
        if (act != '-' && act != 'b' && act != 'e' && act != 'l' && act != 'a') {
            throw new IllegalArgumentException("no such act");
        }
        return change(shelf, a, act == '-' ? NEGATIVE : act, 0);
    }

    public boolean solve(int shelf, int first, boolean isSecond)
            throws IndexOutOfBoundsException, NoSuchElementException, ArithmeticException,
            IllegalStateException {
        checkShelf(shelf);
        if (first < 0 || first > SHELF_COUNT - 6) {
            throw new IndexOutOfBoundsException("no such six shelves");
        }
        for (int i = 0; i < 6; i++) {
            checkHeld(first + i);
        }
        machine.clear();
        int status = isSecond
                ? crossed(first, first + 5, first + 2, first + 3)
                : crossed(first + 2, first + 4, first + 1, first + 5);
        if (status == FINE) {
            status = crossed(first, first + 4, first + 1, first + 3);
        }
        if (status == FINE) {
            status = machine.make('/', 0L, 0);
        }
        return become(shelf, status);
    }

    // ---- formulas

    public int define(int formula) throws IndexOutOfBoundsException {
        checkFormula(formula);
        int fault = spareFormula.parse(text);
        text.clear();
        if (fault >= 0) {
            return -1 - fault;
        }
        Formula old = formulas[formula];
        formulas[formula] = spareFormula;
        spareFormula = old;
        return formulas[formula].count;
    }

    public boolean hasY(int formula) throws IndexOutOfBoundsException, NoSuchElementException {
        checkFormula(formula);
        checkDefined(formula);
        return formulas[formula].hasY;
    }

    public boolean value(int shelf, int formula, int x, int y)
            throws IndexOutOfBoundsException, NoSuchElementException, ArithmeticException,
            IllegalStateException {
        checkFormulaCall(shelf, formula, x, y);
        machine.aim(shelves.box(x), shelves.box(y));
        return become(shelf, machine.makeValue(formulas[formula]));
    }

    public boolean slope(int shelf, int formula, int x, int y)
            throws IndexOutOfBoundsException, NoSuchElementException, ArithmeticException,
            IllegalStateException {
        checkFormulaCall(shelf, formula, x, y);
        machine.aim(shelves.box(x), shelves.box(y));
        return become(shelf, machine.makeSlope(formulas[formula]));
    }

    public int decide(int formula, int other, int x)
            throws IndexOutOfBoundsException, NoSuchElementException {
        checkFormula(formula);
        checkFormula(other);
        checkShelf(x);
        checkDefined(formula);
        checkDefined(other);
        checkHeld(x);
        int answer = -1;
        for (int many = 0; many <= MOST_DIGITS && answer < 0; many++) {
            machine.useDigits(many);
            int side = sideOf(formulas[formula], formulas[other], shelves.box(x));
            if (side != 0) {
                answer = side < 0 ? many : GREATER + many;
            }
        }
        machine.useDigits(digits);
        return answer;
    }

    // ---- zeros

    public int zeros(int formula, int a, int cuts)
            throws IndexOutOfBoundsException, IllegalArgumentException, NoSuchElementException,
            UnsupportedOperationException {
        checkShelf(a);
        checkFormula(formula);
        checkCuts(cuts, MOST_CUTS);
        checkDefined(formula);
        checkHeld(a);
        checkNoY(formula);
        found.clear();
        pending.clear();
        pending.append(shelves.box(a), 0);
        for (int step = 0; step < 2 * MOST_PIECES && pending.count > 0; step++) {
            int depth = pending.takeLast(first);
            char kind = judge(formulas[formula], first);
            if (kind == OPEN && depth < cuts && second.toMiddle(first, machine.unit())) {
                span.copy(second.low);
                second.between(span, first.high);
                pending.append(second, depth + 1);
                second.between(first.low, span);
                pending.append(second, depth + 1);
            } else if (kind != NO_ZERO) {
                found.append(first, kind);
            }
        }
        return found.count;
    }

    public char pieceKind(int index) throws NoSuchElementException {
        checkPiece(index);
        return (char) found.markAt(index);
    }

    public boolean piece(int shelf, int index)
            throws IndexOutOfBoundsException, NoSuchElementException {
        checkShelf(shelf);
        checkPiece(index);
        return fill(shelf, found.box(index));
    }

    public boolean narrow(int shelf, int formula, int a)
            throws IndexOutOfBoundsException, NoSuchElementException,
            UnsupportedOperationException, ArithmeticException, IllegalStateException {
        checkShelf(shelf);
        checkShelf(a);
        checkFormula(formula);
        checkDefined(formula);
        checkHeld(a);
        checkNoY(formula);
        int status = makeNarrowed(formulas[formula], shelves.box(a));
        checkStatus(status);
        first.copy(shelves.box(a));
        if (!first.cutDownTo(machine.result())) {
            throw new IllegalStateException("there are no such numbers");
        }
        return fill(shelf, first);
    }

    public int pairs(int formula, int other, int x, int y, int cuts)
            throws IndexOutOfBoundsException, IllegalArgumentException, NoSuchElementException {
        checkShelf(x);
        checkShelf(y);
        checkFormula(formula);
        checkFormula(other);
        checkCuts(cuts, MOST_PAIR_CUTS);
        checkDefined(formula);
        checkDefined(other);
        checkHeld(x);
        checkHeld(y);
        parts.cut(shelves.box(x), cuts, machine.unit());
        otherParts.cut(shelves.box(y), cuts, machine.unit());
        int count = 0;
        for (int i = 0; i < parts.count; i++) {
            for (int j = 0; j < otherParts.count; j++) {
                machine.aim(parts.box(i), otherParts.box(j));
                if (canBeZero(formulas[formula]) && canBeZero(formulas[other])) {
                    count++;
                }
            }
        }
        return count;
    }

    // ---- bounds of formulas

    public boolean least(int shelf, int formula, int a, int cuts)
            throws IndexOutOfBoundsException, IllegalArgumentException, NoSuchElementException,
            UnsupportedOperationException, ArithmeticException, IllegalStateException {
        checkBoundsCall(shelf, formula, a, cuts);
        checkStatus(seekExtreme(formulas[formula], shelves.box(a), cuts, false));
        return fill(shelf, first);
    }

    public boolean greatest(int shelf, int formula, int a, int cuts)
            throws IndexOutOfBoundsException, IllegalArgumentException, NoSuchElementException,
            UnsupportedOperationException, ArithmeticException, IllegalStateException {
        checkBoundsCall(shelf, formula, a, cuts);
        checkStatus(seekExtreme(formulas[formula], shelves.box(a), cuts, true));
        return fill(shelf, first);
    }

    public boolean area(int shelf, int formula, int a, int cuts)
            throws IndexOutOfBoundsException, IllegalArgumentException, NoSuchElementException,
            UnsupportedOperationException, ArithmeticException, IllegalStateException {
        checkBoundsCall(shelf, formula, a, cuts);
        checkStatus(sumUp(formulas[formula], shelves.box(a), cuts));
        return fill(shelf, first);
    }

    public boolean move(int shelf, int formula, int a, int step)
            throws IndexOutOfBoundsException, IllegalArgumentException, NoSuchElementException,
            UnsupportedOperationException, ArithmeticException, IllegalStateException {
        checkShelf(shelf);
        checkShelf(a);
        checkFormula(formula);
        if (step < 1 || step > MOST_STEP) {
            throw new IllegalArgumentException("the step is 1 to 1000");
        }
        checkDefined(formula);
        checkHeld(a);
        checkNoY(formula);
        return become(shelf, makeMoved(formulas[formula], shelves.box(a), step));
    }

    // ---- figures

    public int held() {
        int count = 0;
        for (int shelf = 0; shelf < SHELF_COUNT; shelf++) {
            if (shelves.holds(shelf)) {
                count++;
            }
        }
        return count;
    }

    public long checksum() {
        long sum = 7L * 31L + digits;
        for (int shelf = 0; shelf < SHELF_COUNT; shelf++) {
            if (shelves.holds(shelf)) {
                spareText.write(shelves.box(shelf).low);
                sum = spareText.addedTo(sum * 31L + 1L);
                spareText.write(shelves.box(shelf).high);
                sum = spareText.addedTo(sum);
            } else {
                sum = sum * 31L;
            }
        }
        return text.addedTo(sum);
    }

    public boolean isSound() {
        boolean isSound = isConstantSound('p') && isConstantSound(CONSTANT_E);
        for (int i = 0; i < FORMULA_COUNT && isSound; i++) {
            for (int shelf = 0; shelf < SHELF_COUNT && isSound; shelf++) {
                if (formulas[i].isDefined && shelves.holds(shelf)) {
                    isSound = isValueSound(formulas[i], shelves.box(shelf));
                }
            }
        }
        return isSound;
    }

    // ---- what the calls share: their exceptions

    private void checkShelf(int shelf) {
        if (shelf < 0 || shelf >= SHELF_COUNT) {
            throw new IndexOutOfBoundsException("no such shelf");
        }
    }

    private void checkShelves(int shelf, int a, int b) {
        checkShelf(shelf);
        checkShelf(a);
        checkShelf(b);
    }

    private void checkHeld(int shelf) {
        if (!shelves.holds(shelf)) {
            throw new NoSuchElementException("the shelf holds no box");
        }
    }

    private void checkPair(int a, int b) {
        checkShelf(a);
        checkShelf(b);
        checkHeld(a);
        checkHeld(b);
    }

    private void checkFormula(int formula) {
        if (formula < 0 || formula >= FORMULA_COUNT) {
            throw new IndexOutOfBoundsException("no such formula");
        }
    }

    private void checkDefined(int formula) {
        if (!formulas[formula].isDefined) {
            throw new NoSuchElementException("the formula is not defined");
        }
    }

    private void checkNoY(int formula) {
        if (formulas[formula].hasY) {
            throw new UnsupportedOperationException("the formula has an y");
        }
    }

    private void checkCuts(int cuts, int most) {
        if (cuts < 0 || cuts > most) {
            throw new IllegalArgumentException("too many cuts, or too few");
        }
    }

    private void checkPiece(int index) {
        if (index < 0 || index >= found.count) {
            throw new NoSuchElementException("no such piece");
        }
    }

    private void checkFormulaCall(int shelf, int formula, int x, int y) {
        checkShelves(shelf, x, y);
        checkFormula(formula);
        checkDefined(formula);
        checkHeld(x);
        checkHeld(y);
    }

    private void checkBoundsCall(int shelf, int formula, int a, int cuts) {
        checkShelf(shelf);
        checkShelf(a);
        checkFormula(formula);
        checkCuts(cuts, MOST_CUTS);
        checkDefined(formula);
        checkHeld(a);
        checkNoY(formula);
    }

    private void checkStatus(int status) {
        if (status == REFUSED) {
            throw new ArithmeticException("refused");
        }
        if (status != FINE) {
            throw new IllegalStateException("too great");
        }
    }

    // ---- what the calls share: making boxes

    private boolean become(int shelf, int status) {
        checkStatus(status);
        return fill(shelf, machine.result());
    }

    private boolean fill(int shelf, Box box) {
        shelves.fill(shelf, box);
        return box.isSingle();
    }

    private boolean combine(int shelf, int a, int b, char act) {
        checkShelves(shelf, a, b);
        checkHeld(a);
        checkHeld(b);
        machine.clear();
        machine.push(shelves.box(a));
        machine.push(shelves.box(b));
        return become(shelf, machine.make(act, 0L, 0));
    }

    private boolean change(int shelf, int a, char act, int by) {
        checkHeld(a);
        machine.clear();
        machine.push(shelves.box(a));
        return become(shelf, machine.make(act, 0L, by));
    }

    /** Puts a * b - c * d on top of what the machine has. */
    private int crossed(int a, int b, int c, int d) {
        machine.push(shelves.box(a));
        machine.push(shelves.box(b));
        int status = machine.make('*', 0L, 0);
        if (status != FINE) {
            return status;
        }
        machine.push(shelves.box(c));
        machine.push(shelves.box(d));
        status = machine.make('*', 0L, 0);
        if (status != FINE) {
            return status;
        }
        return machine.make('-', 0L, 0);
    }

    private int sideOf(Formula one, Formula other, Box box) {
        machine.aim(box, box);
        if (machine.makeValue(one) != FINE) {
            return 0;
        }
        first.copy(machine.result());
        if (machine.makeValue(other) != FINE) {
            return 0;
        }
        if (first.high.isBelow(machine.result().low)) {
            return -1;
        }
        return machine.result().high.isBelow(first.low) ? 1 : 0;
    }

    private boolean canBeZero(Formula formula) {
        return machine.makeValue(formula) != FINE || machine.result().holdsZero();
    }

    private char judge(Formula formula, Box piece) {
        machine.aim(piece, piece);
        if (machine.makeValue(formula) != FINE) {
            return OPEN;
        }
        if (!machine.result().holdsZero()) {
            return NO_ZERO;
        }
        if (machine.makeSlope(formula) != FINE || machine.result().holdsZero()) {
            return OPEN;
        }
        machine.aim(third, third);
        third.between(piece.low, piece.low);
        if (machine.makeValue(formula) != FINE) {
            return OPEN;
        }
        fourth.copy(machine.result());
        third.between(piece.high, piece.high);
        if (machine.makeValue(formula) != FINE) {
            return OPEN;
        }
        return kindByEnds(fourth, machine.result());
    }

    private static char kindByEnds(Box left, Box right) {
        boolean areAbove = left.low.isPositive() && right.low.isPositive();
        boolean areBelow = left.high.isNegative() && right.high.isNegative();
        if (areAbove || areBelow) {
            return NO_ZERO;
        }
        boolean rises = !left.high.isPositive() && !right.low.isNegative();
        boolean falls = !right.high.isPositive() && !left.low.isNegative();
        return rises || falls ? ONE_ZERO : OPEN;
    }

    /** Makes m - v / s, with the value v at the middle m of the box and the slope s in the box. */
    private int makeNarrowed(Formula formula, Box box) {
        first.toMiddle(box, machine.unit());
        machine.aim(first, first);
        int status = machine.makeValue(formula);
        if (status != FINE) {
            return status;
        }
        second.copy(machine.result());
        machine.aim(box, box);
        status = machine.makeSlope(formula);
        if (status != FINE) {
            return status;
        }
        third.copy(machine.result());
        machine.clear();
        machine.push(first);
        machine.push(second);
        machine.push(third);
        status = machine.make('/', 0L, 0);
        return status != FINE ? status : machine.make('-', 0L, 0);
    }

    /** Makes the first box of one that holds the least value in another one, or the greatest. */
    private int seekExtreme(Formula formula, Box box, int cuts, boolean isGreatest) {
        parts.cut(box, cuts, machine.unit());
        for (int i = 0; i < parts.count; i++) {
            machine.aim(parts.box(i), parts.box(i));
            int status = machine.makeValue(formula);
            if (status != FINE) {
                return status;
            }
            second.copy(machine.result());
            third.toMiddle(parts.box(i), machine.unit());
            machine.aim(third, third);
            status = machine.makeValue(formula);
            if (status != FINE) {
                return status;
            }
            takeExtreme(second, machine.result(), i == 0, isGreatest);
        }
        return FINE;
    }

    private void takeExtreme(Box value, Box atMiddle, boolean isFirst, boolean isGreatest) {
        if (isGreatest) {
            if (isFirst || first.high.isBelow(value.high)) {
                first.high.copy(value.high);
            }
            if (isFirst || first.low.isBelow(atMiddle.low)) {
                first.low.copy(atMiddle.low);
            }
        } else {
            if (isFirst || value.low.isBelow(first.low)) {
                first.low.copy(value.low);
            }
            if (isFirst || atMiddle.high.isBelow(first.high)) {
                first.high.copy(atMiddle.high);
            }
        }
    }

    /** Makes the first box the sum of the values in the pieces of a box times their widths. */
    private int sumUp(Formula formula, Box box, int cuts) {
        parts.cut(box, cuts, machine.unit());
        for (int i = 0; i < parts.count; i++) {
            Box part = parts.box(i);
            machine.aim(part, part);
            int status = machine.makeValue(formula);
            if (status != FINE) {
                return status;
            }
            second.copy(machine.result());
            span.toDifference(part.high, part.low);
            third.between(span, span);
            machine.clear();
            if (i > 0) {
                machine.push(first);
            }
            machine.push(second);
            machine.push(third);
            status = machine.make('*', 0L, 0);
            if (status == FINE && i > 0) {
                status = machine.make('+', 0L, 0);
            }
            if (status != FINE) {
                return status;
            }
            first.copy(machine.result());
        }
        return FINE;
    }

    private int makeMoved(Formula formula, Box box, int step) {
        long unit = machine.unit();
        first.copy(box);
        third.low.assign(0L, 0L);
        third.high.assign(step / MOST_STEP, step % MOST_STEP * (ONE / MOST_STEP));
        for (int tube = 0; tube < MOST_TUBES; tube++) {
            machine.aim(first, first);
            int status = machine.makeValue(formula);
            if (status != FINE) {
                return status;
            }
            second.copy(machine.result());
            status = makeAlong(box, third, second);
            if (status != FINE) {
                return status;
            }
            if (machine.result().liesIn(first)) {
                third.low.copy(third.high);
                return makeAlong(box, third, second);
            }
            first.embrace(machine.result());
            first.low.shift(-unit);
            first.high.shift(unit);
            if (first.isTooGreat()) {
                return TOO_GREAT;
            }
        }
        return TOO_GREAT;
    }

    private int makeAlong(Box start, Box time, Box speed) {
        machine.clear();
        machine.push(start);
        machine.push(time);
        machine.push(speed);
        int status = machine.make('*', 0L, 0);
        return status != FINE ? status : machine.make('+', 0L, 0);
    }

    private boolean isConstantSound(char which) {
        if (digits >= MOST_DIGITS) {
            return true;
        }
        machine.clear();
        int status = machine.make(which, 0L, 0);
        first.copy(machine.result());
        machine.useDigits(digits + 1);
        if (status == FINE) {
            status = machine.make(which, 0L, 0);
        }
        machine.useDigits(digits);
        return status != FINE || machine.result().liesIn(first);
    }

    private boolean isValueSound(Formula formula, Box box) {
        machine.aim(box, box);
        if (machine.makeValue(formula) != FINE) {
            return true;
        }
        first.copy(machine.result());
        boolean isSound = true;
        if (digits < MOST_DIGITS) {
            machine.useDigits(digits + 1);
            isSound = machine.makeValue(formula) != FINE || machine.result().liesIn(first);
            machine.useDigits(digits);
        }
        second.toMiddle(box, machine.unit());
        machine.aim(second, second);
        boolean isMiddleSound = machine.makeValue(formula) != FINE
                || machine.result().liesIn(first);
        return isSound && isMiddleSound;
    }

    /** The last one of so many digits behind the point, in parts of ONE. */
    private static long unitOf(int digits) {
        return digits < 0 || digits > MOST_DIGITS ? 1L : TENS[MOST_DIGITS - digits];
    }

    /** A decimal number, whole + part / ONE: the part counts upward from the whole below 0, too. */
    private static final class Bound {
        long whole;
        long part;

        Bound() {
            whole = 0L;
            part = 0L;
        }

        void assign(long newWhole, long newPart) {
            whole = newWhole;
            part = newPart;
        }

        void copy(Bound other) {
            whole = other.whole;
            part = other.part;
        }

        int against(Bound other) {
            return whole != other.whole
                    ? Long.compare(whole, other.whole) : Long.compare(part, other.part);
        }

        boolean isBelow(Bound other) {
            return whole < other.whole || whole == other.whole && part < other.part;
        }

        boolean isNegative() {
            return whole < 0;
        }

        boolean isZero() {
            return whole == 0 && part == 0;
        }

        boolean isPositive() {
            return whole > 0 || whole == 0 && part > 0;
        }

        boolean isTooGreat() {
            return whole >= LIMIT || whole < -LIMIT || whole == -LIMIT && part == 0;
        }

        void turn() {
            if (part == 0) {
                whole = -whole;
            } else {
                whole = -whole - 1;
                part = ONE - part;
            }
        }

        void toSum(Bound a, Bound b) {
            long newWhole = a.whole + b.whole;
            part = a.part + b.part;
            whole = newWhole;
            if (part >= ONE) {
                part -= ONE;
                whole++;
            }
        }

        void toDifference(Bound a, Bound b) {
            long newWhole = a.whole - b.whole;
            part = a.part - b.part;
            whole = newWhole;
            if (part < 0) {
                part += ONE;
                whole--;
            }
        }

        /** Only for a number not below 0, and a small factor. */
        void toMultiple(Bound a, long factor) {
            long product = a.part * factor;
            whole = a.whole * factor + product / ONE;
            part = product % ONE;
        }

        void halve() {
            long half = Math.floorDiv(whole, 2L);
            part = (part + (whole - 2 * half) * ONE) / 2;
            whole = half;
        }

        /** Adds parts, at most ONE of them, or takes them off. */
        void shift(long parts) {
            part += parts;
            if (part < 0) {
                part += ONE;
                whole--;
            } else if (part >= ONE) {
                part -= ONE;
                whole++;
            }
        }

        void roundDown(long unit) {
            if (unit > 1) {
                part -= part % unit;
            }
        }

        void roundUp(long unit, boolean hasRest) {
            long over = unit > 1 ? part % unit : 0L;
            if (over > 0 || hasRest) {
                part += unit - over;
            }
            if (part >= ONE) {
                part -= ONE;
                whole++;
            }
        }
    }

    /** All numbers from a low bound to a high one. */
    private static final class Box {
        final Bound low;
        final Bound high;

        Box() {
            low = new Bound();
            high = new Bound();
        }

        void copy(Box other) {
            low.copy(other.low);
            high.copy(other.high);
        }

        void between(Bound newLow, Bound newHigh) {
            low.copy(newLow);
            high.copy(newHigh);
        }

        boolean isSingle() {
            return low.against(high) == 0;
        }

        boolean holdsZero() {
            return !low.isPositive() && !high.isNegative();
        }

        boolean liesIn(Box other) {
            return !low.isBelow(other.low) && !other.high.isBelow(high);
        }

        boolean isTooGreat() {
            return low.isTooGreat() || high.isTooGreat();
        }

        void turn() {
            long whole = low.whole;
            long part = low.part;
            low.copy(high);
            low.turn();
            high.assign(whole, part);
            high.turn();
        }

        /** Makes each number one without its sign. */
        void dropSigns() {
            if (!low.isNegative()) {
                return;
            }
            if (!high.isPositive()) {
                turn();
                return;
            }
            low.turn();
            if (high.isBelow(low)) {
                high.copy(low);
            }
            low.assign(0L, 0L);
        }

        void embrace(Box other) {
            if (other.low.isBelow(low)) {
                low.copy(other.low);
            }
            if (high.isBelow(other.high)) {
                high.copy(other.high);
            }
        }

        /** Leaves what the other box holds, too, and tells whether there is anything. */
        boolean cutDownTo(Box other) {
            if (low.isBelow(other.low)) {
                low.copy(other.low);
            }
            if (other.high.isBelow(high)) {
                high.copy(other.high);
            }
            return !high.isBelow(low);
        }

        /** Becomes the middle of another box, and tells whether that can be cut there. */
        boolean toMiddle(Box box, long unit) {
            low.toSum(box.low, box.high);
            low.halve();
            low.roundDown(unit);
            boolean canBeCut = box.low.isBelow(low);
            if (!canBeCut) {
                low.copy(box.low);
            }
            high.copy(low);
            return canBeCut;
        }

        void roundOut(long unit) {
            low.roundDown(unit);
            high.roundUp(unit, false);
        }
    }

    /** The shelves, and what the latest calls have put out of them. */
    private static final class Shelves {
        private final Box[] boxes;
        private final boolean[] isHeld;
        private final Box[] keptBoxes;
        private final boolean[] keptIsHeld;
        private final int[] keptShelves;
        private int oldest;
        private int keptCount;

        Shelves() {
            boxes = new Box[SHELF_COUNT];
            isHeld = new boolean[SHELF_COUNT];
            for (int i = 0; i < SHELF_COUNT; i++) {
                boxes[i] = new Box();
            }
            keptBoxes = new Box[MOST_KEPT];
            keptIsHeld = new boolean[MOST_KEPT];
            keptShelves = new int[MOST_KEPT];
            for (int i = 0; i < MOST_KEPT; i++) {
                keptBoxes[i] = new Box();
            }
            oldest = 0;
            keptCount = 0;
        }

        private boolean isShelf(int shelf) {
            return shelf >= 0 && shelf < SHELF_COUNT;
        }

        boolean holds(int shelf) {
            return isShelf(shelf) && isHeld[shelf];
        }

        Box box(int shelf) {
            return boxes[isShelf(shelf) ? shelf : 0];
        }

        void fill(int shelf, Box box) {
            if (!isShelf(shelf)) {
                return;
            }
            int place = (oldest + keptCount) % MOST_KEPT;
            if (keptCount == MOST_KEPT) {
                oldest = (oldest + 1) % MOST_KEPT;
            } else {
                keptCount++;
            }
            keptShelves[place] = shelf;
            keptIsHeld[place] = isHeld[shelf];
            keptBoxes[place].copy(boxes[shelf]);
            boxes[shelf].copy(box);
            isHeld[shelf] = true;
        }

        /** Returns the shelf that is as it was again, or -1 if no call is kept. */
        int takeBack() {
            if (keptCount == 0) {
                return -1;
            }
            keptCount--;
            int place = (oldest + keptCount) % MOST_KEPT;
            int shelf = keptShelves[place];
            isHeld[shelf] = keptIsHeld[place];
            boxes[shelf].copy(keptBoxes[place]);
            return shelf;
        }
    }

    /** Boxes in a row, each with a mark: pieces that are found, that wait, or into which one is cut. */
    private static final class Pieces {
        private final Box[] boxes;
        private final int[] marks;
        private final Box middle;
        int count;

        Pieces() {
            boxes = new Box[MOST_PIECES];
            for (int i = 0; i < MOST_PIECES; i++) {
                boxes[i] = new Box();
            }
            marks = new int[MOST_PIECES];
            middle = new Box();
            count = 0;
        }

        void clear() {
            count = 0;
        }

        private int within(int index) {
            return index < 0 || index >= MOST_PIECES ? 0 : index;
        }

        Box box(int index) {
            return boxes[within(index)];
        }

        int markAt(int index) {
            return marks[within(index)];
        }

        void append(Box box, int mark) {
            if (count < MOST_PIECES) {
                boxes[count].copy(box);
                marks[count] = mark;
                count++;
            }
        }

        int takeLast(Box into) {
            if (count > 0) {
                count--;
            }
            into.copy(boxes[count]);
            return marks[count];
        }

        /** Becomes the parts of a box that is cut so often, each part again, from the left. */
        void cut(Box box, int cuts, long unit) {
            clear();
            append(box, 0);
            for (int round = 0; round < cuts; round++) {
                int before = count;
                for (int i = before - 1; i >= 0; i--) {
                    if (middle.toMiddle(boxes[i], unit)) {
                        split(i);
                    }
                }
            }
        }

        private void split(int index) {
            if (count >= MOST_PIECES) {
                return;
            }
            for (int i = count; i > index; i--) {
                boxes[i].copy(boxes[i - 1]);
            }
            count++;
            boxes[index].high.copy(middle.low);
            boxes[index + 1].low.copy(middle.low);
        }
    }

    /** A row of signs. */
    private static final class Text {
        private static final int MOST_NUMBER_DIGITS = 22;

        private final char[] signs;
        int count;

        Text() {
            signs = new char[MOST_SIGNS];
            count = 0;
        }

        void clear() {
            count = 0;
        }

        void append(char sign) {
            if (count < MOST_SIGNS) {
                signs[count] = sign;
                count++;
            }
        }

        /** Returns a sign, or one that no text has if there is none at that place. */
        char at(int place) {
            return place < 0 || place >= count ? (char) 0 : signs[place];
        }

        boolean isDigitAt(int place) {
            char sign = at(place);
            return sign >= '0' && sign <= '9';
        }

        boolean isNumber() {
            int start = at(0) == '+' || at(0) == '-' ? 1 : 0;
            int digitCount = 0;
            int pointCount = 0;
            for (int i = start; i < count; i++) {
                if (isDigitAt(i)) {
                    digitCount++;
                } else if (signs[i] == '.') {
                    pointCount++;
                } else {
                    return false;
                }
            }
            return digitCount >= 1 && digitCount <= MOST_NUMBER_DIGITS && pointCount <= 1;
        }

        void write(Bound bound) {
            clear();
            long whole = bound.whole;
            long part = bound.part;
            if (whole < 0) {
                append('-');
                whole = part == 0 ? -whole : -whole - 1;
                part = part == 0 ? 0 : ONE - part;
            }
            int length = 1;
            while (length < MOST_SCALE && whole >= TENS[length]) {
                length++;
            }
            for (int i = length - 1; i >= 0; i--) {
                append((char) ('0' + whole / TENS[i] % 10));
            }
            if (part > 0) {
                append('.');
            }
            for (int i = MOST_DIGITS - 1; i >= 0 && part > 0; i--) {
                append((char) ('0' + part / TENS[i]));
                part %= TENS[i];
            }
        }

        long addedTo(long sum) {
            long result = sum;
            for (int i = 0; i < count; i++) {
                result = result * 31L + signs[i];
            }
            return result;
        }
    }

    /**
     * A formula as its acts in the order in which they are made up: each part is a row of acts that
     * ends with its own one. Reads itself from a text.
     */
    private static final class Formula {
        private static final int MOST_NUMBER_DIGITS = 12;

        private final char[] acts;
        private final long[] numbers;
        private final int[] scales;
        private final int[] starts;
        int count;
        boolean hasY;
        boolean isDefined;
        private final char[] waiting;
        private int waitingCount;
        private int place;
        private boolean wantsAtom;
        private boolean mayRaise;

        Formula() {
            acts = new char[MOST_SIGNS];
            numbers = new long[MOST_SIGNS];
            scales = new int[MOST_SIGNS];
            starts = new int[MOST_SIGNS];
            count = 0;
            hasY = false;
            isDefined = false;
            waiting = new char[MOST_SIGNS];
            waitingCount = 0;
            place = 0;
            wantsAtom = true;
            mayRaise = false;
        }

        private int within(int index) {
            return index < 0 || index >= MOST_SIGNS ? 0 : index;
        }

        char actAt(int index) {
            return acts[within(index)];
        }

        long numberAt(int index) {
            return numbers[within(index)];
        }

        /** How many digits of a number stand behind its point, or by what a power or a root is. */
        int scaleAt(int index) {
            return scales[within(index)];
        }

        int startOf(int index) {
            return starts[within(index)];
        }

        /** The last act of the left part, or of the only one. */
        int leftOf(int index) {
            return isPair(actAt(index)) ? startOf(index - 1) - 1 : index - 1;
        }

        private static boolean isPair(char act) {
            return act == '+' || act == '-' || act == '*' || act == '/';
        }

        private static boolean isAhead(char act) {
            return act == NEGATIVE || act == 'r' || act == 'e' || act == 'l' || act == 'a';
        }

        private void append(char act, long number, int scale) {
            if (count >= MOST_SIGNS) {
                return;
            }
            acts[count] = act;
            numbers[count] = number;
            scales[count] = scale;
            count++;
        }

        /** Notes for each act where its part starts. */
        private void findStarts() {
            for (int i = 0; i < count; i++) {
                if (isPair(acts[i])) {
                    starts[i] = startOf(startOf(i - 1) - 1);
                } else if (isAhead(acts[i]) || acts[i] == '^') {
                    starts[i] = startOf(i - 1);
                } else {
                    starts[i] = i;
                }
            }
        }

        private void hold(char act) {
            if (waitingCount < MOST_SIGNS) {
                waiting[waitingCount] = act;
                waitingCount++;
            }
        }

        private char lastHeld() {
            return waitingCount > 0 ? waiting[waitingCount - 1] : (char) 0;
        }

        private void release() {
            append(lastHeld(), 0L, lastHeld() == 'r' ? 2 : 0);
            waitingCount--;
        }

        /** Becomes what a text tells, and returns -1, or the place of the fault. */
        int parse(Text text) {
            count = 0;
            hasY = false;
            isDefined = false;
            waitingCount = 0;
            place = 0;
            wantsAtom = true;
            mayRaise = false;
            for (int step = 0; step < MOST_SIGNS && place < text.count; step++) {
                boolean fits = wantsAtom ? takesAtom(text) : takesAct(text);
                if (!fits) {
                    return place;
                }
            }
            if (wantsAtom) {
                return place;
            }
            releaseProducts();
            releaseSums();
            if (waitingCount > 0) {
                return place;
            }
            findStarts();
            isDefined = true;
            return -1;
        }

        private boolean takesAtom(Text text) {
            if (text.isDigitAt(place)) {
                return takesNumber(text);
            }
            char sign = text.at(place);
            if (sign == 'x' || sign == 'y' || sign == 'p') {
                append(sign, 0L, 0);
                hasY = hasY || sign == 'y';
                closeAtom();
            } else if (sign == '-') {
                hold(NEGATIVE);
            } else if (sign == '(' || isAhead(sign) && sign != NEGATIVE) {
                hold(sign);
            } else {
                return false;
            }
            place++;
            return true;
        }

        private boolean takesNumber(Text text) {
            long number = 0L;
            int digitCount = 0;
            int scale = 0;
            boolean hasPoint = false;
            for (int i = 0; i < MOST_SIGNS; i++) {
                if (text.isDigitAt(place)) {
                    if (digitCount == MOST_NUMBER_DIGITS) {
                        return false;
                    }
                    number = number * 10 + (text.at(place) - '0');
                    digitCount++;
                    scale += hasPoint ? 1 : 0;
                } else if (text.at(place) == '.' && !hasPoint) {
                    hasPoint = true;
                } else {
                    break;
                }
                place++;
            }
            if (hasPoint && scale == 0) {
                return false;
            }
            append(NUMBER, number, scale);
            closeAtom();
            return true;
        }

        private void closeAtom() {
            for (int i = 0; i < MOST_SIGNS && isAhead(lastHeld()); i++) {
                release();
            }
            wantsAtom = false;
            mayRaise = true;
        }

        private void releaseProducts() {
            for (int i = 0; i < MOST_SIGNS && (lastHeld() == '*' || lastHeld() == '/'); i++) {
                release();
            }
        }

        private void releaseSums() {
            for (int i = 0; i < MOST_SIGNS && (lastHeld() == '+' || lastHeld() == '-'); i++) {
                release();
            }
        }

        private boolean takesAct(Text text) {
            char sign = text.at(place);
            if (sign == '^') {
                return takesExponent(text);
            }
            if (sign == ')') {
                return takesClosing();
            }
            if (!isPair(sign)) {
                return false;
            }
            releaseProducts();
            if (sign == '+' || sign == '-') {
                releaseSums();
            }
            hold(sign);
            wantsAtom = true;
            place++;
            return true;
        }

        private boolean takesExponent(Text text) {
            if (!mayRaise) {
                return false;
            }
            place++;
            if (!text.isDigitAt(place)) {
                return false;
            }
            append('^', 0L, text.at(place) - '0');
            mayRaise = false;
            place++;
            return true;
        }

        private boolean takesClosing() {
            releaseProducts();
            releaseSums();
            if (lastHeld() != '(') {
                return false;
            }
            waitingCount--;
            place++;
            closeAtom();
            return true;
        }
    }

    /** Makes boxes of boxes on a stack: single acts, values of formulas, and slopes. */
    private static final class Machine {
        /** Far more than a formula of sixty signs can need. */
        private static final int STACK_SIZE = 128;
        private static final int MOST_STEPS = 100_000;
        private static final char END = (char) 0;

        private final Acts maker;
        private final Box[] stack;
        private int top;
        private Box x;
        private Box y;
        private final int[] nodes;
        private final int[] places;
        private int depth;

        Machine() {
            maker = new Acts();
            stack = new Box[STACK_SIZE];
            for (int i = 0; i < STACK_SIZE; i++) {
                stack[i] = new Box();
            }
            top = 0;
            x = stack[0];
            y = stack[0];
            nodes = new int[MOST_SIGNS];
            places = new int[MOST_SIGNS];
            depth = 0;
        }

        void useDigits(int digits) {
            maker.useDigits(digits);
        }

        long unit() {
            return maker.unit;
        }

        void clear() {
            top = 0;
        }

        private Box at(int place) {
            return stack[place < 0 || place >= STACK_SIZE ? 0 : place];
        }

        Box result() {
            return at(top - 1);
        }

        void push(Box box) {
            if (top < STACK_SIZE) {
                stack[top].copy(box);
                top++;
            }
        }

        /** Says what x and y are from now on. */
        void aim(Box newX, Box newY) {
            x = newX;
            y = newY;
        }

        int makeFrom(Text text) {
            if (top >= STACK_SIZE) {
                return TOO_GREAT;
            }
            top++;
            return maker.tellText(result(), text);
        }

        /** Makes a leaf on top of the stack, or an act of what is on top of it. */
        int make(char act, long number, int by) {
            if (top >= STACK_SIZE) {
                return TOO_GREAT;
            }
            Box before = at(top - 2);
            Box last = at(top - 1);
            Box next = at(top);
            if (Formula.isPair(act) && top > 1) {
                top--;
            }
            switch (act) {
                case NUMBER:
                    top++;
                    return maker.tellNumber(next, number, by);
                case 'p':
                case CONSTANT_E:
                    top++;
                    return maker.tellConstant(next, act);
                case 'x':
                case 'y':
                    top++;
                    next.copy(act == 'x' ? x : y);
                    return FINE;
                case '+':
                    return maker.sum(before, last);
                case '-':
                    return maker.difference(before, last);
                case '*':
                    return maker.product(before, last);
                case '/':
                    return maker.quotient(before, last);
                case NEGATIVE:
                    return maker.negative(last);
                case 'b':
                    return maker.size(last);
                default:
                    return maker.ofOne(last, act, by);
            }
        }

        int makeValue(Formula formula) {
            clear();
            for (int i = 0; i < formula.count; i++) {
                int status = make(formula.actAt(i), formula.numberAt(i), formula.scaleAt(i));
                if (status != FINE) {
                    return status;
                }
            }
            return FINE;
        }

        /**
         * Follows the recipes of the slopes, each frame one part of the formula. The acts from next
         * to last are those of a value that is being made up ahead of the next sign of a recipe.
         */
        int makeSlope(Formula formula) {
            clear();
            depth = 0;
            int status = enter(formula.count - 1);
            int next = 0;
            int last = -1;
            for (int step = 0; step < MOST_STEPS && depth > 0; step++) {
                if (next <= last) {
                    status = make(formula.actAt(next), formula.numberAt(next),
                            formula.scaleAt(next));
                    next++;
                } else {
                    int node = nodes[depth - 1];
                    int exponent = formula.scaleAt(node);
                    char sign = nextSign(recipeOf(formula.actAt(node), exponent));
                    if (sign == END) {
                        depth--;
                    } else if (sign == 'u' || sign == 'v') {
                        last = sign == 'u' ? formula.leftOf(node) : node - 1;
                        next = formula.startOf(last);
                    } else if (sign == 'U' || sign == 'V') {
                        status = enter(sign == 'U' ? formula.leftOf(node) : node - 1);
                    } else {
                        status = make(actOf(sign), numberOf(sign, exponent), byOf(sign, exponent));
                    }
                }
                if (status != FINE) {
                    return status;
                }
            }
            return status;
        }

        private int enter(int node) {
            if (depth >= MOST_SIGNS || node < 0) {
                return TOO_GREAT;
            }
            nodes[depth] = node;
            places[depth] = 0;
            depth++;
            return FINE;
        }

        /** Returns the sign of the latest frame's recipe at which it stands, and goes on. */
        private char nextSign(String recipe) {
            int place = places[depth - 1];
            places[depth - 1]++;
            return place < recipe.length() ? recipe.charAt(place) : END;
        }

        private static char actOf(char sign) {
            if (sign == 'n' || sign >= '0' && sign <= '9') {
                return NUMBER;
            }
            return sign == 'q' ? '^' : sign;
        }

        private static long numberOf(char sign, int exponent) {
            return sign == 'n' ? exponent : sign - '0';
        }

        private static int byOf(char sign, int exponent) {
            switch (sign) {
                case '^':
                    return exponent - 1;
                case 'q':
                case 'r':
                    return 2;
                default:
                    return 0;
            }
        }

        /**
         * How a slope is made up, in order: u and v are the values of the parts, U and V their
         * slopes, n is the exponent, ^ the power by one less, q the square.
         */
        private static String recipeOf(char act, int exponent) {
            switch (act) {
                case 'x':
                    return "1";
                case '+':
                    return "UV+";
                case '-':
                    return "UV-";
                case '*':
                    return "Uv*uV*+";
                case '/':
                    return "Uuv/V*-v/";
                case '^':
                    return exponent == 0 ? "0" : "nu^*U*";
                case NEGATIVE:
                    return "U~";
                case 'r':
                    return "U2ur*/";
                case 'e':
                    return "ueU*";
                case 'l':
                    return "Uu/";
                case 'a':
                    return "U1uq+/";
                default:
                    return "0";
            }
        }
    }

    /** What acts make of boxes, told outward by the digits there are. */
    private static final class Acts {
        private final Reckoner reckoner;
        private final Curves curves;
        private final Bound least;
        private final Bound most;
        private final Bound trial;
        long unit;

        Acts() {
            reckoner = new Reckoner();
            curves = new Curves(reckoner);
            least = new Bound();
            most = new Bound();
            trial = new Bound();
            unit = 1L;
        }

        void useDigits(int digits) {
            unit = unitOf(digits);
        }

        private static int judged(Box box) {
            return box.isTooGreat() ? TOO_GREAT : FINE;
        }

        private int told(Box box) {
            reckoner.tellDown(box.low, unit);
            reckoner.tellUp(box.high, unit);
            return box.isTooGreat() ? TOO_GREAT : FINE;
        }

        int tellNumber(Box box, long number, int scale) {
            reckoner.take(number, scale);
            return told(box);
        }

        int tellText(Box box, Text text) {
            reckoner.takeText(text);
            return told(box);
        }

        int tellConstant(Box box, char which) {
            if (which == 'p') {
                reckoner.assign(3L, 1_415_926_535L, true);
            } else {
                reckoner.assign(2L, 7_182_818_284L, true);
            }
            return told(box);
        }

        int negative(Box box) {
            box.turn();
            box.roundOut(unit);
            return judged(box);
        }

        int size(Box box) {
            box.dropSigns();
            box.roundOut(unit);
            return judged(box);
        }

        /** Makes the first box the sum of both. */
        int sum(Box a, Box b) {
            a.low.toSum(a.low, b.low);
            a.high.toSum(a.high, b.high);
            a.roundOut(unit);
            return judged(a);
        }

        int difference(Box a, Box b) {
            a.low.toDifference(a.low, b.high);
            a.high.toDifference(a.high, b.low);
            a.roundOut(unit);
            return judged(a);
        }

        /** The bounds of a product are among the products of the bounds. */
        int product(Box a, Box b) {
            int lows = a.isSingle() ? 1 : 2;
            int corners = b.isSingle() ? lows : 2 * lows;
            for (int i = 0; i < corners; i++) {
                reckoner.product(i % lows == 0 ? a.low : a.high, i < lows ? b.low : b.high);
                reckoner.tellDown(trial, unit);
                if (i == 0 || trial.isBelow(least)) {
                    least.copy(trial);
                }
                reckoner.tellUp(trial, unit);
                if (i == 0 || most.isBelow(trial)) {
                    most.copy(trial);
                }
            }
            a.between(least, most);
            return judged(a);
        }

        /** Makes the first box the quotient; the second one is used up. */
        int quotient(Box a, Box b) {
            if (b.holdsZero()) {
                return REFUSED;
            }
            if (b.high.isNegative()) {
                a.turn();
                b.turn();
            }
            reckoner.quotient(a.low, a.low.isNegative() ? b.low : b.high);
            reckoner.tellDown(least, unit);
            if (!a.isSingle() || !b.isSingle()) {
                reckoner.quotient(a.high, a.high.isNegative() ? b.high : b.low);
            }
            reckoner.tellUp(most, unit);
            a.between(least, most);
            return judged(a);
        }

        /** Makes a power, a root, or what a curve makes: all rise where they are used. */
        int ofOne(Box box, char act, int by) {
            if (act == 'r' && box.low.isNegative() || act == 'l' && !box.low.isPositive()) {
                return REFUSED;
            }
            if (act == '^' && by % 2 == 0) {
                box.dropSigns();
            }
            boolean isSingle = box.isSingle();
            for (int side = 0; side < 2; side++) {
                Bound bound = side == 0 ? box.low : box.high;
                if (side == 0 || !isSingle) {
                    switch (act) {
                        case '^':
                            reckoner.toPower(bound, by);
                            break;
                        case 'r':
                            reckoner.toRoot(bound, by);
                            break;
                        case 'e':
                            curves.exponential(bound);
                            curves.tell();
                            break;
                        case 'l':
                            curves.logarithm(bound);
                            curves.tell();
                            break;
                        default:
                            curves.arc(bound);
                            curves.tell();
                            break;
                    }
                }
                if (side == 0) {
                    reckoner.tellDown(least, unit);
                } else {
                    reckoner.tellUp(most, unit);
                }
            }
            box.between(least, most);
            return judged(box);
        }
    }

    /**
     * Makes numbers out of bounds: each is held cut to ten digits behind the point, downward, with
     * the news whether there is more of it. Longer numbers stand in rows of five digits a place.
     */
    private static final class Reckoner {
        private static final long PLACE = 100_000L;
        private static final int BOUND_PLACES = 5;
        private static final int ROW_LENGTH = 32;
        private static final int MOST_TRIES = 1_000;
        private static final int MOST_WHOLE_DIGITS = 13;

        private final Bound floor;
        private boolean hasRest;
        private final Bound left;
        private final Bound right;
        private long[] row;
        private long[] nextRow;
        private final long[] factor;
        /** How many places of the row stand behind the point, and how many there are in all. */
        private int behind;
        private int used;
        /** What a division has left, and by what it divides, each as a bound has it. */
        private long leftWhole;
        private long leftPart;
        private long byWhole;
        private long byPart;

        Reckoner() {
            floor = new Bound();
            hasRest = false;
            left = new Bound();
            right = new Bound();
            row = new long[ROW_LENGTH];
            nextRow = new long[ROW_LENGTH];
            factor = new long[BOUND_PLACES];
            behind = 0;
            used = 0;
            leftWhole = 0L;
            leftPart = 0L;
            byWhole = 1L;
            byPart = 0L;
        }

        void tellDown(Bound into, long unit) {
            into.copy(floor);
            into.roundDown(unit);
        }

        void tellUp(Bound into, long unit) {
            into.copy(floor);
            into.roundUp(unit, hasRest);
        }

        void assign(long whole, long part, boolean newHasRest) {
            floor.whole = whole;
            floor.part = part;
            hasRest = newHasRest;
        }

        /** Makes the number its negative; what was cut off is then above the floor again. */
        void turn() {
            floor.turn();
            if (hasRest) {
                floor.shift(-1L);
            }
        }

        void take(long number, int scale) {
            int behindPoint = scale < 0 || scale > MOST_SCALE ? 0 : scale;
            long ten = TENS[behindPoint];
            long whole = Math.floorDiv(number, ten);
            long part = Math.floorMod(number, ten);
            if (behindPoint <= MOST_DIGITS) {
                assign(whole, part * TENS[MOST_DIGITS - behindPoint], false);
            } else {
                long cut = TENS[behindPoint - MOST_DIGITS];
                assign(whole, part / cut, part % cut != 0);
            }
        }

        /** Takes a text that is a number. */
        void takeText(Text text) {
            assign(0L, 0L, false);
            int behindPoint = -1;
            for (int i = 0; i < text.count; i++) {
                if (text.at(i) == '.') {
                    behindPoint = 0;
                } else if (text.isDigitAt(i)) {
                    takeDigit(text.at(i) - '0', behindPoint);
                    behindPoint += behindPoint < 0 ? 0 : 1;
                }
            }
            if (text.at(0) == '-') {
                turn();
            }
        }

        private void takeDigit(int digit, int behindPoint) {
            if (behindPoint < 0) {
                if (floor.whole < BEYOND) {
                    floor.whole = floor.whole * 10 + digit;
                }
            } else if (behindPoint < MOST_DIGITS) {
                floor.part += digit * TENS[MOST_DIGITS - 1 - behindPoint];
            } else {
                hasRest = hasRest || digit > 0;
            }
        }

        private static boolean dropSign(Bound bound) {
            boolean isNegative = bound.isNegative();
            if (isNegative) {
                bound.turn();
            }
            return isNegative;
        }

        private static void spread(Bound bound, long[] into) {
            into[0] = bound.part % PLACE;
            into[1] = bound.part / PLACE;
            into[2] = bound.whole % PLACE;
            into[3] = bound.whole / PLACE % PLACE;
            into[4] = bound.whole / PLACE / PLACE;
        }

        void product(Bound a, Bound b) {
            left.copy(a);
            right.copy(b);
            boolean isNegative = dropSign(left) != dropSign(right);
            spread(left, row);
            used = BOUND_PLACES;
            behind = 2;
            spread(right, factor);
            widen();
            settle();
            if (isNegative) {
                turn();
            }
        }

        /** The exponent is 0 to 9. */
        void toPower(Bound a, int exponent) {
            left.copy(a);
            boolean isNegative = dropSign(left);
            raise(exponent);
            settle();
            if (isNegative && exponent % 2 == 1) {
                turn();
            }
        }

        /** Makes the row a power of the left number, or at least the limit if it reaches that. */
        private void raise(int exponent) {
            spread(left, row);
            used = BOUND_PLACES;
            behind = 2;
            spread(left, factor);
            if (exponent == 0) {
                left.assign(1L, 0L);
                spread(left, row);
            }
            for (int i = 1; i < exponent && wholeOfRow() < LIMIT; i++) {
                widen();
            }
        }

        /** Multiplies the row by the factor. */
        private void widen() {
            int length = used + BOUND_PLACES;
            if (length > ROW_LENGTH) {
                return;
            }
            for (int i = 0; i < length; i++) {
                nextRow[i] = 0L;
            }
            for (int i = 0; i < used; i++) {
                long place = row[i];
                if (place != 0) {
                    for (int j = 0; j < BOUND_PLACES; j++) {
                        nextRow[i + j] += place * factor[j];
                    }
                }
            }
            long carry = 0L;
            for (int i = 0; i < length; i++) {
                long sum = nextRow[i] + carry;
                nextRow[i] = sum % PLACE;
                carry = sum / PLACE;
            }
            long[] old = row;
            row = nextRow;
            nextRow = old;
            behind += 2;
            used = length;
            while (used > behind + 1 && row[used - 1] == 0) {
                used--;
            }
        }

        private long wholeOfRow() {
            if (used > behind + 3) {
                return BEYOND;
            }
            long whole = 0L;
            for (int i = used - 1; i >= behind; i--) {
                whole = whole * PLACE + row[i];
            }
            return whole;
        }

        private void settle() {
            long whole = wholeOfRow();
            if (whole >= BEYOND || behind < 2) {
                assign(BEYOND, 0L, false);
                return;
            }
            boolean isMore = false;
            for (int i = 0; i < behind - 2; i++) {
                isMore = isMore || row[i] != 0;
            }
            assign(whole, row[behind - 2] + PLACE * row[behind - 1], isMore);
        }

        /** The divisor is not 0. */
        void quotient(Bound a, Bound b) {
            left.copy(a);
            right.copy(b);
            boolean isNegative = dropSign(left) != dropSign(right);
            int wholeDigits = align(left, right);
            if (wholeDigits > MOST_WHOLE_DIGITS) {
                assign(BEYOND, 0L, false);
            } else {
                long whole = nextDigits(wholeDigits);
                long part = nextDigits(MOST_DIGITS);
                assign(whole, part, leftWhole > 0 || leftPart > 0);
            }
            if (isNegative) {
                turn();
            }
        }

        /**
         * Begins a division of numbers not below 0: the divisor grows by tens until the first digit
         * is less than ten. Returns how many digits stand ahead of the point.
         */
        int align(Bound dividend, Bound divisor) {
            leftWhole = dividend.whole;
            leftPart = dividend.part;
            byWhole = divisor.whole;
            byPart = divisor.part;
            int wholeDigits = 1;
            for (int i = 0; i < 2 * MOST_WHOLE_DIGITS; i++) {
                long whole = byWhole * 10 + byPart * 10 / ONE;
                long part = byPart * 10 % ONE;
                if (leftWhole < whole || leftWhole == whole && leftPart < part) {
                    break;
                }
                byWhole = whole;
                byPart = part;
                wholeDigits++;
            }
            return wholeDigits;
        }

        /** Returns the next digits of the division as one number. */
        long nextDigits(int many) {
            long result = 0L;
            for (int i = 0; i < many; i++) {
                int digit = 0;
                while (digit < 9
                        && (leftWhole > byWhole || leftWhole == byWhole && leftPart >= byPart)) {
                    leftWhole -= byWhole;
                    leftPart -= byPart;
                    if (leftPart < 0) {
                        leftPart += ONE;
                        leftWhole--;
                    }
                    digit++;
                }
                result = result * 10 + digit;
                leftWhole = leftWhole * 10 + leftPart * 10 / ONE;
                leftPart = leftPart * 10 % ONE;
            }
            return result;
        }

        /** The number is not below 0; a double tells the root nearly, powers tell it wholly. */
        void toRoot(Bound a, int by) {
            right.copy(a);
            long guess = guessRoot(right, by);
            boolean isExact = false;
            for (int i = 0; i < MOST_TRIES; i++) {
                left.assign(guess / ONE, guess % ONE);
                raise(by);
                settle();
                int order = floor.against(right);
                isExact = order == 0 && !hasRest;
                if (order < 0 || isExact || guess <= 0) {
                    break;
                }
                guess--;
            }
            for (int i = 0; i < MOST_TRIES && !isExact; i++) {
                left.assign((guess + 1) / ONE, (guess + 1) % ONE);
                raise(by);
                settle();
                int order = floor.against(right);
                isExact = order == 0 && !hasRest;
                if (order > 0 || order == 0 && hasRest) {
                    break;
                }
                guess++;
            }
            assign(guess / ONE, guess % ONE, !isExact);
        }

        private static long guessRoot(Bound a, int by) {
            double size = (double) a.whole + (double) a.part / (double) ONE;
            double guess = 1.0;
            for (int i = 0; i < 64 && powerOf(guess, by) < size; i++) {
                guess *= 2.0;
            }
            for (int i = 0; i < 64 && powerOf(guess / 2.0, by) > size; i++) {
                guess /= 2.0;
            }
            for (int i = 0; i < 10; i++) {
                guess = ((by - 1) * guess + size / powerOf(guess, by - 1)) / by;
            }
            return (long) (guess * (double) ONE);
        }

        private static double powerOf(double base, int exponent) {
            double result = base;
            for (int i = 1; i < exponent; i++) {
                result *= base;
            }
            return result;
        }
    }

    /** A number not below 0 with 54 digits behind its point, in limbs of nine, the last ones first. */
    private static final class Fixed {
        private static final long LIMB = 1_000_000_000L;
        private static final int BEHIND = 6;
        private static final int LIMBS = 8;

        private final long[] limbs;
        private final long[] sums;

        Fixed() {
            limbs = new long[LIMBS];
            sums = new long[LIMBS + 2];
        }

        long limbAt(int index) {
            return index < 0 || index >= LIMBS ? 0L : limbs[index];
        }

        void setLimb(int index, long limb) {
            if (index >= 0 && index < LIMBS) {
                limbs[index] = limb;
            }
        }

        void clear() {
            for (int i = 0; i < LIMBS; i++) {
                limbs[i] = 0L;
            }
        }

        void copy(Fixed other) {
            for (int i = 0; i < LIMBS; i++) {
                limbs[i] = other.limbs[i];
            }
        }

        /** Becomes a multiple of a row of a table, which is less than 1. */
        void load(int[] table, int tableRow, int factor) {
            clear();
            int start = tableRow * BEHIND;
            if (start < 0 || start + BEHIND > table.length) {
                return;
            }
            long carry = 0L;
            for (int i = 0; i < BEHIND; i++) {
                long sum = (long) table[start + i] * factor + carry;
                limbs[i] = sum % LIMB;
                carry = sum / LIMB;
            }
            limbs[BEHIND] = carry;
        }

        boolean isZero() {
            boolean isZero = true;
            for (int i = 0; i < LIMBS && isZero; i++) {
                isZero = limbs[i] == 0;
            }
            return isZero;
        }

        boolean isBelow(Fixed other) {
            int i = LIMBS - 1;
            while (i > 0 && limbs[i] == other.limbs[i]) {
                i--;
            }
            return limbs[i] < other.limbs[i];
        }

        void plus(Fixed other) {
            long carry = 0L;
            for (int i = 0; i < LIMBS; i++) {
                long sum = limbs[i] + other.limbs[i] + carry;
                carry = sum >= LIMB ? 1L : 0L;
                limbs[i] = sum - carry * LIMB;
            }
        }

        /** Takes off a number that is not greater. */
        void minus(Fixed other) {
            long borrow = 0L;
            for (int i = 0; i < LIMBS; i++) {
                long left = limbs[i] - other.limbs[i] - borrow;
                borrow = left < 0 ? 1L : 0L;
                limbs[i] = left + borrow * LIMB;
            }
        }

        void over(int divisor) {
            if (divisor < 1) {
                return;
            }
            long rest = 0L;
            for (int i = LIMBS - 1; i >= 0; i--) {
                long left = rest * LIMB + limbs[i];
                limbs[i] = left / divisor;
                rest = left % divisor;
            }
        }

        /**
         * Becomes a product. What is below the last digits is left out but for one limb that carries;
         * eight products of limbs still fit a long.
         */
        void toProduct(Fixed a, Fixed b) {
            for (int i = 0; i < LIMBS + 2; i++) {
                sums[i] = 0L;
            }
            for (int i = 0; i < LIMBS; i++) {
                long limb = a.limbs[i];
                if (limb != 0) {
                    for (int j = i < BEHIND - 1 ? BEHIND - 1 - i : 0; j < LIMBS; j++) {
                        sums[i + j - BEHIND + 1] += limb * b.limbs[j];
                    }
                }
            }
            long carry = sums[0] / LIMB;
            for (int i = 0; i < LIMBS; i++) {
                long sum = sums[i + 1] + carry;
                limbs[i] = sum % LIMB;
                carry = sum / LIMB;
            }
        }
    }

    /**
     * The curves: e to the power, the logarithm, the arc tangent. But for those of 0, 1 and 0 their
     * numbers are never decimal ones, so there is always a rest. To tell on which side of a number
     * of ten digits one is, 54 digits are far more than it takes: the nearest one by its nature comes
     * within 1/3 of 10^-30 (the arc tangent of 10^-10), and of the 10^22 bounds none can be expected
     * to come within 10^-36 by chance.
     */
    private static final class Curves {
        /** The logarithms of 17/16, 19/16 and so on to 31/16, and of 2. */
        private static final int[] LOGS = {
            144723770, 286202475, 40420263, 580606132, 816434842, 60624621,
            858107802, 935378723, 55147264, 340098946, 926659222, 171850256,
            963589623, 982574749, 532999161, 831669494, 483641758, 271933715,
            399414725, 140379777, 977489846, 137824345, 689368453, 362905493,
            96014427, 749202171, 619669006, 532590180, 628419511, 446287102,
            27227338, 640471136, 934870841, 516807224, 764547836, 523248143,
            481723062, 192512376, 529205333, 514343546, 746692789, 594707107,
            39570955, 147938393, 709650938, 260235838, 245365008, 661398482,
            360255254, 75500134, 458176568, 417232121, 559945309, 693147180,
        };
        private static final int LOG_ROWS = 8;
        /** The arc tangents of 0, 1/8 and so on to 1. */
        private static final int[] ARCS = {
            0, 0, 0, 0, 0, 0,
            769804089, 573170191, 163871025, 31354849, 546761435, 124354994,
            381184067, 914144098, 211275810, 172082481, 126864154, 244978663,
            880915779, 776975655, 926460499, 395920063, 270572220, 358770670,
            286120263, 28537054, 461214402, 214256231, 806116, 463647609,
            534014806, 346447582, 401661270, 971508216, 343562435, 558599315,
            115312382, 41510591, 717322638, 802809228, 793284386, 643501108,
            18317085, 951419120, 525904653, 417014151, 621624505, 718829999,
            843776455, 49292349, 819875721, 615660845, 397448309, 785398163,
        };
        private static final int ARC_ROWS = 8;
        private static final int MOST_TERMS = 500;
        /** Numbers are doubled until they are between this power of 2 and the next one. */
        private static final int TOP_BIT = 40;
        private static final int HALVINGS = 8;
        /** Ten digits and 1/256 in eight more: a bound's parts times this are parts of 10^18. */
        private static final long PER_HALVED = 390_625L;

        private final Reckoner reckoner;
        private boolean isNegative;
        private boolean hasRest;
        private final Fixed power;
        private final Fixed step;
        private final Fixed term;
        private final Fixed sum;
        private final Fixed above;
        private final Fixed below;
        private final Bound top;
        private final Bound bottom;
        private final Bound over;
        private final Bound under;

        Curves(Reckoner reckoner) {
            this.reckoner = reckoner;
            isNegative = false;
            hasRest = false;
            power = new Fixed();
            step = new Fixed();
            term = new Fixed();
            sum = new Fixed();
            above = new Fixed();
            below = new Fixed();
            top = new Bound();
            bottom = new Bound();
            over = new Bound();
            under = new Bound();
        }

        /** Hands the last number that was made to the reckoner. */
        void tell() {
            long whole = sum.limbAt(7) * Fixed.LIMB + sum.limbAt(6);
            long part = sum.limbAt(5) * 10 + sum.limbAt(4) / 100_000_000L;
            reckoner.assign(whole, part, hasRest);
            if (isNegative) {
                reckoner.turn();
            }
        }

        private void begin(boolean newHasRest) {
            isNegative = false;
            hasRest = newHasRest;
            sum.clear();
        }

        void exponential(Bound x) {
            begin(!x.isZero());
            if (x.isZero()) {
                sum.setLimb(6, 1L);
            } else if (x.whole >= 28) {
                sum.setLimb(7, BEYOND / Fixed.LIMB);
            } else if (x.whole >= -30) {
                sumPowers(x);
                for (int i = 0; i < HALVINGS; i++) {
                    sum.toProduct(sum, sum);
                }
            }
        }

        /** Makes the sum e to the power of x / 256, whose terms soon vanish. */
        private void sumPowers(Bound x) {
            long parts = x.whole * ONE + x.part;
            boolean isBelowZero = parts < 0;
            long halved = (isBelowZero ? -parts : parts) * PER_HALVED;
            step.clear();
            step.setLimb(5, halved / Fixed.LIMB);
            step.setLimb(4, halved % Fixed.LIMB);
            term.clear();
            term.setLimb(6, 1L);
            sum.copy(term);
            for (int n = 1; n < MOST_TERMS; n++) {
                term.toProduct(step, term);
                term.over(n);
                if (term.isZero()) {
                    break;
                }
                if (isBelowZero && n % 2 == 1) {
                    sum.minus(term);
                } else {
                    sum.plus(term);
                }
            }
        }

        /** The number is above 0. */
        void logarithm(Bound x) {
            boolean isOne = x.whole == 1 && x.part == 0;
            begin(!isOne);
            if (isOne) {
                return;
            }
            over.copy(x);
            int doublings = 0;
            while (doublings < 2 * TOP_BIT && over.whole < 1L << TOP_BIT) {
                over.toSum(over, over);
                doublings++;
            }
            int tableRow = (int) (over.whole >> TOP_BIT - 3) - LOG_ROWS;
            under.assign((2L * tableRow + 17) << TOP_BIT - 4, 0L);
            boolean isLess = over.isBelow(under);
            top.toDifference(isLess ? under : over, isLess ? over : under);
            bottom.toSum(over, under);
            sumOddPowers(false);
            sum.plus(sum);
            above.load(LOGS, tableRow, 1);
            below.clear();
            term.load(LOGS, LOG_ROWS, Math.abs(TOP_BIT - doublings));
            (doublings > TOP_BIT ? below : above).plus(term);
            (isLess ? below : above).plus(sum);
            settle();
        }

        void arc(Bound x) {
            begin(!x.isZero());
            if (x.isZero()) {
                return;
            }
            over.copy(x);
            if (x.isNegative()) {
                over.turn();
            }
            under.assign(1L, 0L);
            boolean isSteep = under.isBelow(over);
            if (isSteep) {
                under.copy(over);
                over.assign(1L, 0L);
            }
            int tableRow = nearestEighth();
            boolean isLess = shiftToEighth(tableRow);
            sumOddPowers(true);
            above.clear();
            below.clear();
            if (isSteep) {
                above.load(ARCS, ARC_ROWS, 2);
            }
            term.load(ARCS, tableRow, 1);
            (isSteep ? below : above).plus(term);
            (isSteep != isLess ? below : above).plus(sum);
            settle();
            isNegative = x.isNegative();
        }

        /** Returns how many eighths over / under is nearest to; it is at most 1. */
        private int nearestEighth() {
            top.toMultiple(over, 16L);
            int eighths = 0;
            while (eighths < ARC_ROWS) {
                bottom.toMultiple(under, 2L * eighths + 1);
                if (top.isBelow(bottom)) {
                    break;
                }
                eighths++;
            }
            return eighths;
        }

        /**
         * Makes top / bottom the tangent of the difference of two arcs: that of over / under and that
         * of so many eighths. Returns whether it is below 0; the top is without the sign.
         */
        private boolean shiftToEighth(int eighths) {
            top.toMultiple(over, 8L);
            bottom.toMultiple(under, eighths);
            boolean isLess = top.isBelow(bottom);
            if (isLess) {
                top.toDifference(bottom, top);
            } else {
                top.toDifference(top, bottom);
            }
            under.toMultiple(under, 8L);
            over.toMultiple(over, eighths);
            bottom.toSum(over, under);
            return isLess;
        }

        /** Makes the sum z + z^3 / 3 + z^5 / 5 and so on, z being top / bottom, or z - z^3 / 3 + .. */
        private void sumOddPowers(boolean isAlternating) {
            reckoner.align(top, bottom);
            reckoner.nextDigits(1);
            power.clear();
            for (int i = Fixed.BEHIND - 1; i >= 0; i--) {
                power.setLimb(i, reckoner.nextDigits(9));
            }
            step.toProduct(power, power);
            sum.copy(power);
            for (int n = 3; n < MOST_TERMS; n += 2) {
                power.toProduct(power, step);
                if (power.isZero()) {
                    break;
                }
                term.copy(power);
                term.over(n);
                if (isAlternating && n % 4 == 3) {
                    sum.minus(term);
                } else {
                    sum.plus(term);
                }
            }
        }

        /** Makes the sum what is above less what is below. */
        private void settle() {
            isNegative = above.isBelow(below);
            sum.copy(isNegative ? below : above);
            sum.minus(isNegative ? above : below);
        }
    }
}
