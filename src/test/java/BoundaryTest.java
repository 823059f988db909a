import java.math.BigInteger;

/** The boundaries that the promises name: a test for each of their sentences. */
public final class BoundaryTest {
    private static final Checks checks = new Checks();
    private static final long SIGN = 1L << 63;
    private static final long BEYOND = 2047L << 52;
    private static final long MOST = BEYOND - 1;
    private static final long ONE = 1023L << 52;
    private static final int LEAST_INT = Integer.MIN_VALUE;
    private static final int MOST_INT = Integer.MAX_VALUE;
    private static final long[] NONE = {BEYOND, SIGN | BEYOND, BEYOND | 1, SIGN | BEYOND | 1, Long.MAX_VALUE, -1};

    public static void main(String[] args) {
        aNewTextIsEmpty();
        aClearedTextIsEmpty();
        addTakesAByte();
        addRefusesWith400There();
        addAnswersTheLength();
        readAnswersTheNearest();
        readRefusesWhatIsNone();
        printTakes0To30Places();
        printWritesNoPointWithoutPlaces();
        printRoundsToTheNearest();
        printRoundsToTheEven();
        printWritesTheSign();
        printWritesNoZeroBefore();
        printRefusesNone();
        printAnswersTheLength();
        shortestWritesTheSign();
        shortestWritesADigitAboveZero();
        shortestWritesNoPointBehindOneDigit();
        shortestWritesThePower();
        shortestWritesTheLeastDigits();
        shortestRoundsToTheNearest();
        shortestRoundsToTheEven();
        shortestReadsAsTheNumber();
        shortestWritesZero();
        shortestRefusesNone();
        shortestAnswersTheLength();
        letterTellsByteI();
        letterMisses();
        checks.finish();
    }

    private static long bits(double number) {
        return Double.doubleToRawLongBits(number);
    }

    private static void duePrint(double number, int places, String want) {
        DoubleText x = new DoubleText();
        String call = "print of " + number + " with " + places + " places";
        checks.due(call, want.length(), () -> x.print(bits(number), places));
        checks.dueText("after " + call, want, x);
    }

    private static void dueShortest(double number, String want) {
        DoubleText x = new DoubleText();
        String call = "shortest of " + number;
        checks.due(call, want.length(), () -> x.shortest(bits(number)));
        checks.dueText("after " + call, want, x);
    }

    private static double next(double number, int steps) {
        return Double.longBitsToDouble(bits(number) + steps);
    }

    private static void aNewTextIsEmpty() {
        checks.sentence("DoubleText(): TEXT is empty");
        DoubleText x = new DoubleText();
        checks.dueMissing("letter(0) of a new object", () -> x.letter(0));
        checks.dueRefused("read() of a new object", () -> x.read());
        checks.dueText("of a new object", "", x);
    }

    private static void aClearedTextIsEmpty() {
        checks.sentence("clear(): TEXT is empty");
        for (String text : new String[] {"", "7", "-", "1".repeat(399), "1".repeat(400)}) {
            DoubleText x = Checks.holding(text);
            x.clear();
            checks.dueMissing("letter(0) after clear", () -> x.letter(0));
            checks.dueRefused("read() after clear", () -> x.read());
            checks.dueText("after clear", "", x);
        }
        // nothing of the longer text that stood there is read with the shorter one
        for (String longer : new String[] {"1.5", "-15", "1e5", "1.5e5", "15e-5", "-.5", "--5"}) {
            DoubleText x = Checks.holding(longer);
            x.clear();
            checks.dueRefused("read() after clear of " + longer, () -> x.read());
            x.add('1');
            checks.due("read() of 1 after clear of " + longer, ONE, () -> x.read());
        }
        DoubleText printed = new DoubleText();
        printed.print(ONE, 30);
        printed.clear();
        printed.clear();
        checks.dueText("after print and two clears", "", printed);
    }

    private static void addTakesAByte() {
        checks.sentence("A byte (0 .. 255, else bad) more");
        DoubleText x = new DoubleText();
        checks.due("add(0)", 1, () -> x.add(0));
        checks.due("add(255)", 2, () -> x.add(255));
        for (int b : new int[] {-1, 256, -256, 511, LEAST_INT, MOST_INT, LEAST_INT + '1', 1 << 8 | '1'}) {
            checks.dueBad("add(" + b + ")", () -> x.add(b));
        }
        checks.due("letter(0)", 0, () -> x.letter(0));
        checks.due("letter(1)", 255, () -> x.letter(1));
        checks.dueMissing("letter(2)", () -> x.letter(2));
    }

    private static void addRefusesWith400There() {
        checks.sentence("400 are there: REFUSED");
        DoubleText x = Checks.longHolding("8".repeat(57));
        checks.due("add with 398 there", 399, () -> x.add('8'));
        checks.due("add with 399 there", 400, () -> x.add(255));
        checks.dueRefused("add with 400 there", () -> x.add('8'));
        checks.dueRefused("add(0) with 400 there", () -> x.add(0));
        checks.dueRefused("add(255) with 400 there", () -> x.add(255));
        checks.dueText("of 400 bytes", Checks.longestPrint() + "8".repeat(58) + "\u00ff", x);
    }

    private static void addAnswersTheLength() {
        checks.sentence("add: Answers TEXT's length");
        DoubleText x = new DoubleText();
        for (int length = 1; length <= 400; length++) {
            checks.due("add number " + length, length, () -> x.add('0'));
        }
        x.clear();
        checks.due("add after clear", 1, () -> x.add('0'));
        x.print(bits(-Double.MAX_VALUE), 30);
        checks.due("add behind print", 342, () -> x.add('0'));
        x.shortest(bits(-Double.MAX_VALUE));
        checks.due("add behind shortest", 24, () -> x.add('0'));
    }

    private static void readAnswersTheNearest() {
        checks.sentence("The LONG NEAREST to the NUMERAL that TEXT is");
        DoubleText x = new DoubleText();
        long[] numbers = {0, 1, (1L << 52) - 1, 1L << 52, ONE, MOST, SIGN, SIGN | 1, SIGN | MOST};
        for (long v : numbers) {
            x.shortest(v);
            checks.due("read() behind shortest(" + v + ")", v, () -> x.read());
            checks.due("read() again", v, () -> x.read());
        }
        x.clear();
        Checks.append(x, "4e1");
        checks.due("read() of 4e1", bits(40), () -> x.read());
        x.add('2');
        checks.due("read() of 4e12", bits(4e12), () -> x.read());
        checks.dueText("after read", "4e12", x);
    }

    private static void readRefusesWhatIsNone() {
        checks.sentence("It's none: REFUSED");
        DoubleText empty = new DoubleText();
        checks.dueRefused("read() of nothing", () -> empty.read());
        for (char b = 0; b < 256; b++) {
            boolean isDigit = b >= '0' && b <= '9';
            dueNumeralOrNot(isDigit, "" + b);
            dueNumeralOrNot(isDigit || b == '-', b + "5");
            dueNumeralOrNot(isDigit || b == '.' || b == 'e', "1" + b + "5");
            dueNumeralOrNot(isDigit || b == 'e', "1.2" + b + "5");
            dueNumeralOrNot(isDigit || b == '-', "1e" + b + "5");
            dueNumeralOrNot(isDigit, "1e1" + b);
        }
    }

    private static void dueNumeralOrNot(boolean isNumeral, String text) {
        DoubleText x = Checks.holding(text);
        if (isNumeral) {
            checks.due("read() of '" + text + "'", bits(Double.parseDouble(text)), () -> x.read());
        } else {
            checks.dueRefused("read() of '" + text + "'", () -> x.read());
        }
    }

    private static void printTakes0To30Places() {
        checks.sentence("so many places behind the point (0 .. 30)");
        String tenth = "0.100000000000000005551115123126";
        duePrint(0.1, 30, tenth);
        duePrint(0.1, 29, "0.10000000000000000555111512313");
        duePrint(0.1, 1, "0.1");
        duePrint(0.1, 0, "0");
        DoubleText x = new DoubleText();
        for (int places : new int[] {-1, 31, -30, 32, LEAST_INT, MOST_INT}) {
            checks.dueBad("print(0.1, " + places + ")", () -> x.print(bits(0.1), places));
        }
        checks.dueText("after bad places", "", x);
    }

    private static void printWritesNoPointWithoutPlaces() {
        checks.sentence("none: without point");
        duePrint(7, 0, "7");
        duePrint(7, 1, "7.0");
        duePrint(0, 0, "0");
        duePrint(-1234.5678, 0, "-1235");
        duePrint(Double.MAX_VALUE, 0, BigInteger.TWO.pow(53).subtract(BigInteger.ONE).shiftLeft(971).toString());
    }

    private static void printRoundsToTheNearest() {
        checks.sentence("rounded: the nearest such one");
        duePrint(next(0.5, -1), 0, "0");
        duePrint(next(0.5, 1), 0, "1");
        duePrint(next(1.5, -1), 0, "1");
        duePrint(next(2.5, 1), 0, "3");
        duePrint(0.95, 1, "0.9");
        duePrint(0.15, 1, "0.1");
        duePrint(0.35, 1, "0.3");
        duePrint(9.96, 1, "10.0");
        duePrint(0.999, 2, "1.00");
        duePrint(999999999.9, 0, "1000000000");
        duePrint(5e-31, 30, "0." + "0".repeat(29) + "1");
        duePrint(next(5e-31, -1), 30, "0." + "0".repeat(30));
        duePrint(Double.MIN_VALUE, 30, "0." + "0".repeat(30));
        duePrint(1e23, 0, "99999999999999991611392");
    }

    private static void printRoundsToTheEven() {
        checks.sentence("of two the one whose last digit is even");
        duePrint(0.5, 0, "0");
        duePrint(1.5, 0, "2");
        duePrint(2.5, 0, "2");
        duePrint(9.5, 0, "10");
        duePrint(10.5, 0, "10");
        duePrint(0.25, 1, "0.2");
        duePrint(0.75, 1, "0.8");
        duePrint(0.125, 2, "0.12");
        duePrint(0.375, 2, "0.38");
        duePrint(-3.5, 0, "-4");
        duePrint(-4.5, 0, "-4");
        duePrint(4503599627370495.5, 0, "4503599627370496");
        duePrint(4503599627370494.5, 0, "4503599627370494");
        duePrint(Math.scalb(1.0, -31), 30, "0.000000000465661287307739257812");
        duePrint(Math.scalb(3.0, -31), 30, "0.000000001396983861923217773438");
        duePrint(Math.scalb(1.0, -10), 9, "0.000976562");
        duePrint(Math.scalb(3.0, -10), 9, "0.002929688");
    }

    private static void printWritesTheSign() {
        checks.sentence("print: '-' before it if v has the sign");
        duePrint(-1, 0, "-1");
        duePrint(1, 0, "1");
        duePrint(-0.0, 0, "-0");
        duePrint(-0.0, 30, "-0." + "0".repeat(30));
        duePrint(0.0, 1, "0.0");
        duePrint(-0.4, 0, "-0");
        duePrint(-Double.MIN_VALUE, 2, "-0.00");
        duePrint(-9.99, 1, "-10.0");
    }

    private static void printWritesNoZeroBefore() {
        checks.sentence("no 0 before but one before the point");
        duePrint(0.0, 0, "0");
        duePrint(0.0, 2, "0.00");
        duePrint(0.25, 2, "0.25");
        duePrint(0.96, 1, "1.0");
        duePrint(10, 2, "10.00");
        duePrint(99999999, 0, "99999999");
        duePrint(100000000, 0, "100000000");
        duePrint(999999999, 0, "999999999");
        duePrint(1000000000, 0, "1000000000");
        duePrint(1e18, 0, "1000000000000000000");
    }

    private static void printRefusesNone() {
        checks.sentence("print: v is none: REFUSED");
        DoubleText x = Checks.holding("5");
        for (long v : NONE) {
            checks.dueRefused("print(" + v + ", 0)", () -> x.print(v, 0));
            checks.dueRefused("print(" + v + ", 30)", () -> x.print(v, 30));
        }
        checks.dueText("after refused prints", "5", x);
        checks.due("print of the largest", 309, () -> x.print(MOST, 0));
    }

    private static void printAnswersTheLength() {
        checks.sentence("print: Answers TEXT's length");
        DoubleText x = Checks.holding("6".repeat(400));
        checks.due("the shortest print", 1, () -> x.print(0, 0));
        checks.due("the longest print", 341, () -> x.print(SIGN | MOST, 30));
        checks.due("letter(340)", '0', () -> x.letter(340));
        checks.dueMissing("letter(341)", () -> x.letter(341));
        checks.due("a shorter print behind it", 4, () -> x.print(bits(-0.5), 1));
        checks.dueText("of the shorter print", "-0.5", x);
    }

    private static void shortestWritesTheSign() {
        checks.sentence("shortest: '-' if it has the sign");
        dueShortest(1, "1e0");
        dueShortest(-1, "-1e0");
        dueShortest(-Double.MIN_VALUE, "-5e-324");
        dueShortest(-Double.MAX_VALUE, "-1.7976931348623157e308");
        dueShortest(-0.0, "-0e0");
    }

    private static void shortestWritesADigitAboveZero() {
        checks.sentence("a digit above 0");
        dueShortest(0.09, "9e-2");
        dueShortest(0.01, "1e-2");
        dueShortest(0.001, "1e-3");
        dueShortest(1e-9, "1e-9");
        dueShortest(1e-10, "1e-10");
        dueShortest(1e9, "1e9");
        dueShortest(999999999, "9.99999999e8");
    }

    private static void shortestWritesNoPointBehindOneDigit() {
        checks.sentence("'.' and more digits (none: without point)");
        dueShortest(9, "9e0");
        dueShortest(9.5, "9.5e0");
        dueShortest(90, "9e1");
        dueShortest(91, "9.1e1");
        dueShortest(1e308, "1e308");
        dueShortest(1.5e-323, "1.5e-323");
    }

    private static void shortestWritesThePower() {
        checks.sentence("'e', and the power of 10 of the first digit ('-' before it, if it's below 0)");
        dueShortest(1, "1e0");
        dueShortest(9.75, "9.75e0");
        dueShortest(0.5, "5e-1");
        dueShortest(10, "1e1");
        dueShortest(2e9, "2e9");
        dueShortest(2e10, "2e10");
        dueShortest(2e99, "2e99");
        dueShortest(2e100, "2e100");
        dueShortest(2e-9, "2e-9");
        dueShortest(2e-10, "2e-10");
        dueShortest(2e-99, "2e-99");
        dueShortest(2e-100, "2e-100");
        dueShortest(2e105, "2e105");
        dueShortest(2e199, "2e199");
        dueShortest(2e200, "2e200");
        dueShortest(2e-299, "2e-299");
        dueShortest(2e-300, "2e-300");
        // the exact number begins with a 9, one power lower
        dueShortest(1e23, "1e23");
    }

    private static void shortestWritesTheLeastDigits() {
        checks.sentence("with the least number of digits");
        dueShortest(Double.MIN_VALUE, "5e-324");
        dueShortest(0.1, "1e-1");
        dueShortest(next(0.1, 1), "1.0000000000000002e-1");
        dueShortest(next(0.1, -1), "9.999999999999999e-2");
        dueShortest(9007199254740991.0, "9.007199254740991e15");
        dueShortest(9007199254740992.0, "9.007199254740992e15");
        dueShortest(Math.scalb(1.0, 60), "1.152921504606847e18");
        dueShortest(1e22, "1e22");
        dueShortest(1.0 / 3, "3.333333333333333e-1");
        dueShortest(0.1 + 0.2, "3.0000000000000004e-1");
        dueShortest(Double.MIN_NORMAL, "2.2250738585072014e-308");
        dueShortest(next(Double.MIN_NORMAL, -1), "2.225073858507201e-308");
    }

    private static void shortestRoundsToTheNearest() {
        checks.sentence("v rounded to so many (the nearest such one)");
        // 5.684341886080802e-14 reads as it, too, but 5.684341886080801e-14 is nearer and does not
        dueShortest(Math.scalb(1.0, -44), "5.6843418860808015e-14");
        dueShortest(2 * Double.MIN_VALUE, "1e-323");
        dueShortest(4 * Double.MIN_VALUE, "2e-323");
        dueShortest(2.0 / 3, "6.666666666666666e-1");
        // below a power of 2 the next number lies half as far away as above it
        dueShortest(Math.scalb(1.0, 65), "3.6893488147419103e19");
        dueShortest(Math.scalb(1.0, 66), "7.378697629483821e19");
        dueShortest(Math.scalb(1.0, -28), "3.725290298461914e-9");
        // but not with E = 0
        dueShortest(Math.scalb(1.0, -1067), "6.3e-322");
    }

    private static void shortestRoundsToTheEven() {
        checks.sentence("of two the even one");
        // exactly 4.8923492431640625e-4 and 4.9114227294921875e-4
        dueShortest(Math.scalb(513.0, -20), "4.892349243164062e-4");
        dueShortest(Math.scalb(515.0, -20), "4.911422729492188e-4");
        // exactly 2.98023223876953125e-8
        dueShortest(Math.scalb(1.0, -25), "2.9802322387695312e-8");
        // 5.960464477539063e-8 reads as it, but the even one, 5.960464477539062e-8, does not
        dueShortest(Math.scalb(1.0, -24), "5.9604644775390625e-8");
    }

    private static void shortestReadsAsTheNumber() {
        checks.sentence("reads as v");
        // halfway to the number next to it, and so read as the one with an even F
        double[] highEdges = {1e23, 5e22, 2.1e22};
        String[] highTexts = {"1e23", "5e22", "2.1e22"};
        String[] aboveThem = {"1.0000000000000001e23", "5.0000000000000004e22", "2.1000000000000002e22"};
        double[] lowEdges = {7e22, 9.5e21, 1.9e22};
        String[] lowTexts = {"7e22", "9.5e21", "1.9e22"};
        String[] belowThem = {"6.9999999999999996e22", "9.499999999999999e21", "1.8999999999999998e22"};
        for (int i = 0; i < 3; i++) {
            dueShortest(highEdges[i], highTexts[i]);
            dueShortest(next(highEdges[i], 1), aboveThem[i]);
            dueShortest(lowEdges[i], lowTexts[i]);
            dueShortest(next(lowEdges[i], -1), belowThem[i]);
        }
        // 1.8e308 would read as BEYOND
        dueShortest(Double.MAX_VALUE, "1.7976931348623157e308");
        DoubleText x = new DoubleText();
        for (long v : new long[] {1, 2, MOST, MOST - 1, SIGN | 1, SIGN | MOST, 1L << 52, (1L << 52) - 1, 0, SIGN}) {
            x.shortest(v);
            checks.due("read() behind shortest(" + v + ")", v, () -> x.read());
        }
    }

    private static void shortestWritesZero() {
        checks.sentence("0: 0e0");
        dueShortest(0.0, "0e0");
        DoubleText x = new DoubleText();
        x.shortest(SIGN);
        checks.due("read() behind shortest of 0 with the sign", SIGN, () -> x.read());
    }

    private static void shortestRefusesNone() {
        checks.sentence("shortest: v is none: REFUSED");
        DoubleText x = Checks.holding("5");
        for (long v : NONE) {
            checks.dueRefused("shortest(" + v + ")", () -> x.shortest(v));
        }
        checks.dueText("after refused calls", "5", x);
        checks.due("shortest of the largest", 22, () -> x.shortest(MOST));
    }

    private static void shortestAnswersTheLength() {
        checks.sentence("shortest: Answers TEXT's length");
        DoubleText x = Checks.holding("6".repeat(400));
        checks.due("shortest(0)", 3, () -> x.shortest(0));
        checks.due("a longest one", 24, () -> x.shortest(bits(-Double.MIN_NORMAL)));
        checks.due("letter(23)", '8', () -> x.letter(23));
        checks.dueMissing("letter(24)", () -> x.letter(24));
        checks.due("a shorter one behind it", 4, () -> x.shortest(bits(-3)));
        checks.dueText("of the shorter one", "-3e0", x);
    }

    private static void letterTellsByteI() {
        checks.sentence("Byte i of TEXT");
        DoubleText x = new DoubleText();
        for (int i = 0; i < 400; i++) {
            x.add(i % 256);
        }
        for (int i : new int[] {0, 1, 127, 128, 255, 256, 398, 399}) {
            checks.due("letter(" + i + ")", i % 256, () -> x.letter(i));
        }
    }

    private static void letterMisses() {
        checks.sentence("Not there: missing");
        int[] lengths = {0, 1, 2, 399, 400};
        for (int length : lengths) {
            DoubleText x = Checks.holding("4".repeat(length));
            for (int i : new int[] {-1, length, length + 1, 400, 401, LEAST_INT, MOST_INT}) {
                checks.dueMissing("letter(" + i + ") of " + length, () -> x.letter(i));
            }
            if (length > 0) {
                checks.due("letter of the last", '4', () -> x.letter(length - 1));
            }
        }
        DoubleText shorter = Checks.holding("4".repeat(400));
        shorter.shortest(ONE);
        checks.dueMissing("letter(3) of a text that got shorter", () -> shorter.letter(3));
        shorter.clear();
        checks.dueMissing("letter(0) of a text that got empty", () -> shorter.letter(0));
    }
}
