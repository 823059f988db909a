/** Promises 1, 2, 3 and 7: a new object, clear, add and letter. */
public final class TextTest {
    private static final Checks checks = new Checks();

    public static void main(String[] args) {
        newObjectIsEmpty();
        clearEmpties();
        addAnswersLength();
        addTakesEveryByte();
        addRefusesWhatIsNoByte();
        addRefusesBeyond400();
        letterTellsWhatIsThere();
        objectsShareNothing();
        checks.finish();
    }

    private static void newObjectIsEmpty() {
        DoubleText x = new DoubleText();
        checks.dueMissing("letter(0) of a new object", () -> x.letter(0));
        checks.dueRefused("read() of a new object", () -> x.read());
        checks.due("the first add", 1, () -> x.add('7'));
    }

    private static void clearEmpties() {
        DoubleText x = Checks.holding("12.5");
        x.clear();
        checks.same("text after clear", "", Checks.textOf(x));
        checks.dueRefused("read() after clear", () -> x.read());
        checks.due("add after clear", 1, () -> x.add('8'));
        checks.same("text after clear and add", "8", Checks.textOf(x));
        x.clear();
        x.clear();
        checks.same("text after two clears", "", Checks.textOf(x));
        x.print(Double.doubleToRawLongBits(1.5), 3);
        x.clear();
        checks.same("text after print and clear", "", Checks.textOf(x));
    }

    private static void addAnswersLength() {
        DoubleText x = new DoubleText();
        for (int i = 1; i <= 400; i++) {
            checks.due("add number " + i, i, () -> x.add('1'));
        }
        DoubleText y = new DoubleText();
        y.print(Double.doubleToRawLongBits(-2.5), 1);
        checks.due("add behind a printed text", 5, () -> y.add('0'));
        checks.same("a printed text with one more", "-2.50", Checks.textOf(y));
    }

    private static void addTakesEveryByte() {
        DoubleText x = new DoubleText();
        for (int b = 0; b < 256; b++) {
            x.add(b);
        }
        for (int b = 0; b < 256; b++) {
            int at = b;
            checks.due("letter(" + b + ")", b, () -> x.letter(at));
        }
    }

    private static void addRefusesWhatIsNoByte() {
        DoubleText x = Checks.holding("3");
        for (int b : new int[] {-1, 256, 257, 1000, -256, Integer.MIN_VALUE, Integer.MAX_VALUE}) {
            checks.dueBad("add(" + b + ")", () -> x.add(b));
        }
        checks.same("text after bad adds", "3", Checks.textOf(x));
    }

    private static void addRefusesBeyond400() {
        DoubleText x = Checks.holding("4".repeat(399) + "5");
        checks.dueRefused("add with 400 there", () -> x.add('1'));
        checks.dueRefused("add(0) with 400 there", () -> x.add(0));
        checks.dueBad("add(256) with 400 there", () -> x.add(256));
        checks.dueBad("add(-1) with 400 there", () -> x.add(-1));
        checks.due("letter(399)", '5', () -> x.letter(399));
        checks.dueMissing("letter(400)", () -> x.letter(400));
        x.clear();
        checks.due("add after clearing 400", 1, () -> x.add('1'));
    }

    private static void letterTellsWhatIsThere() {
        DoubleText x = Checks.holding("-9e1");
        checks.due("letter(0)", '-', () -> x.letter(0));
        checks.due("letter(3)", '1', () -> x.letter(3));
        for (int i : new int[] {4, 5, 399, 400, -1, Integer.MIN_VALUE, Integer.MAX_VALUE}) {
            checks.dueMissing("letter(" + i + ")", () -> x.letter(i));
        }
        checks.same("text after letters", "-9e1", Checks.textOf(x));
        x.print(0, 0);
        checks.dueMissing("letter(1) of a text that got shorter", () -> x.letter(1));
    }

    private static void objectsShareNothing() {
        DoubleText x = Checks.holding("1");
        DoubleText y = Checks.holding("22");
        checks.same("the first object's text", "1", Checks.textOf(x));
        checks.same("the second object's text", "22", Checks.textOf(y));
    }
}
