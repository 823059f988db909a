import java.math.BigDecimal;
import java.math.BigInteger;
import java.math.MathContext;
import java.math.RoundingMode;

/** The boundaries that the document names before its promises: a test for each of its sentences. */
public final class TermsTest {
    private static final Checks checks = new Checks();
    private static final long SIGN = 1L << 63;
    private static final long BEYOND = 2047L << 52;
    private static final long MOST = BEYOND - 1;
    private static final long MOST_F = (1L << 52) - 1;
    private static final long LEAST_OF_E_1 = 1L << 52;
    private static final long ONE = 1023L << 52;
    private static final BigInteger EDGE = BigInteger.TWO.pow(1024).subtract(BigInteger.TWO.pow(970));

    public static void main(String[] args) {
        anObjectLasts512Calls();
        theHighestBitIsTheSign();
        exponent2047IsNone();
        exponents1To2046();
        exponent0();
        textHasAtMost400Bytes();
        aMinusOrNone();
        digitsAtLeastOne();
        pointAndDigitsOrNothing();
        powerOrNothing();
        timesTenToThePower();
        ofTwoTheEvenOne();
        beyondAll();
        theSignOfTheMinus();
        aRefusedCallChangesNothing();
        theFirstOfSeveralExceptions();
        theRowsAreItsOwn();
        checks.finish();
    }

    private static void dueRead(String text, long want) {
        DoubleText x = Checks.holding(text);
        checks.due("read() of '" + text + "'", want, () -> x.read());
    }

    private static void dueNumeral(String... texts) {
        for (String text : texts) {
            dueRead(text, Double.doubleToRawLongBits(Double.parseDouble(text)));
        }
    }

    private static void dueNoNumeral(String... texts) {
        for (String text : texts) {
            DoubleText x = Checks.holding(text);
            checks.dueRefused("read() of '" + text + "'", () -> x.read());
        }
    }

    private static void duePrint(long v, int places, String want) {
        DoubleText x = new DoubleText();
        checks.due("print(" + v + ", " + places + ")", want.length(), () -> x.print(v, places));
        checks.dueText("after print(" + v + ", " + places + ")", want, x);
    }

    private static void dueShortest(long v, String want) {
        DoubleText x = new DoubleText();
        checks.due("shortest(" + v + ")", want.length(), () -> x.shortest(v));
        checks.dueText("after shortest(" + v + ")", want, x);
    }

    private static void anObjectLasts512Calls() {
        checks.sentence("An object is used for at most 512 calls after it has been made");
        String text = "1" + "0".repeat(394) + "e-394";
        DoubleText x = new DoubleText();
        for (int call = 1; call <= 400; call++) {
            int at = call - 1;
            checks.due("add as call " + call, call, () -> x.add(text.charAt(at)));
        }
        for (int call = 401; call <= 511; call++) {
            checks.dueRefused("add as call " + call, () -> x.add('1'));
        }
        checks.due("read() as call 512", ONE, () -> x.read());

        DoubleText y = new DoubleText();
        long[] unlike = {1, MOST, ONE, LEAST_OF_E_1, MOST_F, 0, SIGN | 1, SIGN | MOST};
        for (int call = 1; call <= 511; call += 2) {
            long v = unlike[call / 2 % unlike.length];
            y.shortest(v);
            checks.due("read() as call " + (call + 1) + ", behind shortest(" + v + ")", v, () -> y.read());
        }
    }

    private static void theHighestBitIsTheSign() {
        checks.sentence("its highest bit is the sign (1: below 0)");
        long[] sizes = {0, 1, MOST_F, LEAST_OF_E_1, ONE, ONE + 1, MOST};
        for (long size : sizes) {
            DoubleText x = new DoubleText();
            x.print(size, 2);
            String text = Checks.textOf(x);
            duePrint(size | SIGN, 2, "-" + text);
            x.shortest(size);
            String few = Checks.textOf(x);
            dueShortest(size | SIGN, "-" + few);
            checks.due("read() of " + few, size, () -> x.read());
            dueRead("-" + few, size | SIGN);
        }
    }

    private static void exponent2047IsNone() {
        checks.sentence("E = 2047: none (F = 0: BEYOND all)");
        for (long f : new long[] {0, 1, 2, 1L << 51, MOST_F - 1, MOST_F}) {
            for (long sign : new long[] {0, SIGN}) {
                long v = sign | BEYOND | f;
                DoubleText x = new DoubleText();
                checks.dueRefused("print(" + v + ", 0)", () -> x.print(v, 0));
                checks.dueRefused("shortest(" + v + ")", () -> x.shortest(v));
            }
        }
        dueRead("1e309", BEYOND);
        dueRead("-1e309", SIGN | BEYOND);
    }

    private static void exponents1To2046() {
        checks.sentence("E 1 .. 2046: its size is (2^52 + F) 2^(E - 1075)");
        duePrint(1075L << 52, 0, "4503599627370496");
        duePrint(1075L << 52 | 1, 0, "4503599627370497");
        duePrint(1075L << 52 | MOST_F, 0, "9007199254740991");
        duePrint(1076L << 52, 0, "9007199254740992");
        duePrint(1074L << 52 | 1, 1, "2251799813685248.5");
        duePrint(ONE, 0, "1");
        duePrint(2046L << 52, 0, BigInteger.TWO.pow(1023).toString());
        BigInteger most = BigInteger.TWO.pow(53).subtract(BigInteger.ONE).shiftLeft(971);
        duePrint(MOST, 0, most.toString());
        dueRead(most.toString(), MOST);
        dueShortest(MOST, "1.7976931348623157e308");
        dueShortest(LEAST_OF_E_1, "2.2250738585072014e-308");
        dueShortest(LEAST_OF_E_1 + 1, "2.225073858507202e-308");
        dueRead(longestOf((1L << 52) + 0, -1074), LEAST_OF_E_1);
        dueRead(longestOf((1L << 52) + 1, -1074), LEAST_OF_E_1 + 1);
        dueRead(longestOf((1L << 53) - 1, -1074), LEAST_OF_E_1 + MOST_F);
        dueRead(longestOf(1L << 52, -1073), 2L << 52);
    }

    private static void exponent0() {
        checks.sentence("E = 0: F 2^(-1074)");
        for (long f : new long[] {1, 2, 3, 1L << 51, MOST_F - 1, MOST_F}) {
            dueRead(longestOf(f, -1074), f);
            duePrint(f, 30, "0." + "0".repeat(30));
        }
        dueShortest(1, "5e-324");
        dueShortest(2, "1e-323");
        dueShortest(3, "1.5e-323");
        dueShortest(MOST_F, "2.225073858507201e-308");
        dueShortest(0, "0e0");
        duePrint(0, 1, "0.0");
    }

    /** That number in as many digits as a text has room for. */
    private static String longestOf(long mantissa, int power) {
        BigDecimal two = BigDecimal.valueOf(2);
        BigDecimal exact = BigDecimal.valueOf(mantissa).divide(two.pow(-power));
        BigDecimal cut = exact.round(new MathContext(395, RoundingMode.HALF_EVEN));
        return cut.unscaledValue() + "e" + -cut.scale();
    }

    private static void textHasAtMost400Bytes() {
        checks.sentence("TEXT: at most 400 bytes");
        DoubleText x = Checks.holding("9".repeat(399));
        checks.due("add with 399 there", 400, () -> x.add('9'));
        checks.dueRefused("add with 400 there", () -> x.add('9'));
        checks.due("letter(399)", '9', () -> x.letter(399));
        checks.dueMissing("letter(400)", () -> x.letter(400));
        checks.due("read() of 400 bytes", BEYOND, () -> x.read());
    }

    private static void aMinusOrNone() {
        checks.sentence("A NUMERAL: a '-' or none");
        dueNumeral("1", "-1", "-0", "-12.5e3");
        dueNoNumeral("--1", "+1", "-+1", "1-", "- 1", "-", "\u00ad1");
    }

    private static void digitsAtLeastOne() {
        checks.sentence("digits (at least one)");
        dueNumeral("0", "9", "-9", "00", "0000000009", "9".repeat(400), "-" + "9".repeat(399));
        dueNoNumeral("", "-", ".", ".5", "-.5", "e5", "-e5", ".e5", "/", ":", "a", "1a", "1/", "1:", "\u00b2");
    }

    private static void pointAndDigitsOrNothing() {
        checks.sentence("then '.' and digits (at least one) or nothing");
        dueNumeral("5", "5.5", "5.0", "0.5", "5.50", "5." + "5".repeat(398));
        dueNoNumeral("5.", "-5.", "5.e1", "5..5", "5.5.", "5.5.5", "5.-5", "5,5", "5.a", "5./", "5.:");
        dueNoNumeral("1".repeat(399) + ".");
    }

    private static void powerOrNothing() {
        checks.sentence("then 'e', a '-' or none, 1 to 4 digits, or nothing");
        dueNumeral("2", "2e3", "2e-3", "2e03", "2e003", "2e0003", "2e-0003", "2.5e3", "2e9999", "2e-9999", "2e0000");
        dueNumeral("2".repeat(395) + "e-394", "2".repeat(398) + "e0");
        dueNoNumeral("2e", "2e-", "2.5e", "2.5e-", "2e00003", "2e-00003", "2e12345", "2e-12345", "2e00000");
        dueNoNumeral("2e+3", "2e--3", "2e3-", "2e3.", "2e3.5", "2e3e3", "2E3", "2e 3", "2e3 ", "2e/", "2e:", "2e3a");
        dueNoNumeral("2".repeat(399) + "e", "2".repeat(398) + "e-", "2".repeat(394) + "e00000");
    }

    private static void timesTenToThePower() {
        checks.sentence("what it says, times 10 to what stands behind e");
        dueRead("1e0", ONE);
        dueRead("1e-0", ONE);
        dueRead("0.001e3", ONE);
        dueRead("1000e-3", ONE);
        dueRead("1e9999", BEYOND);
        dueRead("1e-9999", 0);
        dueRead("0e9999", 0);
        dueRead("0." + "0".repeat(392) + "1e393", ONE);
        dueRead("1" + "0".repeat(394) + "e-394", ONE);
        dueRead("0." + "0".repeat(392) + "1e701", Double.doubleToRawLongBits(1e308));
        dueRead("0." + "0".repeat(392) + "1e702", BEYOND);
        dueRead("1" + "0".repeat(394) + "e-717", Double.doubleToRawLongBits(1e-323));
        dueRead("1" + "0".repeat(394) + "e-718", 0);
    }

    private static void ofTwoTheEvenOne() {
        checks.sentence("the one nearest to what's said (of two the one with an even F)");
        long e53 = 1076L << 52;
        dueRead("9007199254740993", e53);
        dueRead("9007199254740995", e53 + 2);
        dueRead("9007199254740993." + "0".repeat(382) + "1", e53 + 1);
        dueRead("9007199254740994." + "9".repeat(383), e53 + 1);
        // halfway to the next E
        dueRead("9007199254740991.5", e53);
        dueRead("9007199254740991.4" + "9".repeat(382), e53 - 1);
        dueRead("9007199254740990.5", e53 - 2);
        dueRead("9007199254740990.5" + "0".repeat(381) + "1", e53 - 1);
        BigDecimal halfOfE0 = new BigDecimal(Double.MIN_VALUE).divide(BigDecimal.valueOf(2));
        dueRead(below(halfOfE0), 0);
        dueRead(above(halfOfE0), 1);
        BigDecimal lastOfE0 = halfOfE0.multiply(BigDecimal.valueOf((1L << 53) - 1));
        dueRead(below(lastOfE0), MOST_F);
        dueRead(above(lastOfE0), LEAST_OF_E_1);
    }

    private static String below(BigDecimal number) {
        return rounded(number, RoundingMode.DOWN);
    }

    private static String above(BigDecimal number) {
        return rounded(number, RoundingMode.UP);
    }

    private static String rounded(BigDecimal number, RoundingMode mode) {
        BigDecimal cut = number.round(new MathContext(394, mode));
        return cut.unscaledValue() + "e" + -cut.scale();
    }

    private static void beyondAll() {
        checks.sentence("2^1024 - 2^970 and all above: BEYOND");
        dueRead(EDGE.toString(), BEYOND);
        dueRead(EDGE + "." + "0".repeat(90), BEYOND);
        dueRead(EDGE + "." + "0".repeat(89) + "1", BEYOND);
        dueRead(EDGE.subtract(BigInteger.ONE).toString(), MOST);
        dueRead(EDGE.subtract(BigInteger.ONE) + "." + "9".repeat(90), MOST);
        dueRead(BigInteger.TWO.pow(1024).subtract(BigInteger.ONE).toString(), BEYOND);
        dueRead(BigInteger.TWO.pow(1024).toString(), BEYOND);
        dueRead(BigInteger.TWO.pow(1024).add(BigInteger.ONE).toString(), BEYOND);
        dueRead(BigInteger.TWO.pow(1025).toString(), BEYOND);
        for (int tenths = 18; tenths < 100; tenths++) {
            dueRead(tenths + "e307", BEYOND);
        }
        dueRead("9".repeat(309), BEYOND);
        dueRead("1" + "0".repeat(309), BEYOND);
        dueRead("9".repeat(400), BEYOND);
        dueRead("9".repeat(395) + "e9999", BEYOND);
    }

    private static void theSignOfTheMinus() {
        checks.sentence("with the sign of the '-' (0, too)");
        dueRead("-1", SIGN | ONE);
        dueRead("-0", SIGN);
        dueRead("-0.00", SIGN);
        dueRead("-0e9999", SIGN);
        dueRead("-1e-9999", SIGN);
        dueRead("-" + below(new BigDecimal(Double.MIN_VALUE).divide(BigDecimal.valueOf(2))), SIGN);
        dueRead("-" + EDGE, SIGN | BEYOND);
        dueRead("-1e9999", SIGN | BEYOND);
        dueRead("0", 0);
        dueRead("1e-9999", 0);
        dueRead("1e9999", BEYOND);
        dueRead("0e-1", 0);
        dueRead("1e-1", Double.doubleToRawLongBits(0.1));
    }

    private static void aRefusedCallChangesNothing() {
        checks.sentence("A refused call changes nothing");
        for (String text : new String[] {"", "-", "-2.5e", "\u0000\u00ff"}) {
            refuseAll(Checks.holding(text), text);
        }
        String behind = "0".repeat(58) + "e";
        DoubleText full = Checks.longHolding(behind);
        checks.dueRefused("add with 400 there", () -> full.add('0'));
        checks.dueRefused("add with 400 there", () -> full.add('5'));
        refuseAll(full, Checks.longestPrint() + behind);

        DoubleText numeral = Checks.holding("0." + "0".repeat(392) + "1e0393");
        checks.dueRefused("add with 400 there", () -> numeral.add('0'));
        checks.dueRefused("shortest(BEYOND)", () -> numeral.shortest(BEYOND));
        checks.due("read() after refused calls", ONE, () -> numeral.read());
    }

    private static void refuseAll(DoubleText x, String text) {
        checks.dueBad("add(-1)", () -> x.add(-1));
        checks.dueBad("add(256)", () -> x.add(256));
        checks.dueBad("print(0, -1)", () -> x.print(0, -1));
        checks.dueBad("print(0, 31)", () -> x.print(0, 31));
        checks.dueRefused("print(BEYOND, 0)", () -> x.print(BEYOND, 0));
        checks.dueRefused("print(-1, 30)", () -> x.print(-1, 30));
        checks.dueRefused("shortest(BEYOND)", () -> x.shortest(BEYOND));
        checks.dueRefused("shortest(-1)", () -> x.shortest(-1));
        checks.dueMissing("letter(-1)", () -> x.letter(-1));
        checks.dueMissing("letter behind the text", () -> x.letter(text.length()));
        checks.dueRefused("read() of '" + text + "'", () -> x.read());
        checks.dueText("after refused calls", text, x);
    }

    private static void theFirstOfSeveralExceptions() {
        checks.sentence("Of several exceptions that fit it throws the one that stands first in its heading");
        DoubleText full = Checks.holding("1".repeat(400));
        for (int b : new int[] {-1, 256, Integer.MIN_VALUE, Integer.MAX_VALUE}) {
            checks.dueBad("add(" + b + ") with 400 there", () -> full.add(b));
        }
        DoubleText x = new DoubleText();
        for (long v : new long[] {BEYOND, SIGN | BEYOND, BEYOND | 1, -1}) {
            for (int places : new int[] {-1, 31, Integer.MIN_VALUE, Integer.MAX_VALUE}) {
                checks.dueBad("print(" + v + ", " + places + ")", () -> x.print(v, places));
            }
        }
    }

    private static void theRowsAreItsOwn() {
        checks.sentence("All memory is the class's own rows");
        DoubleText x = new DoubleText();
        DoubleText y = new DoubleText();
        for (int i = 0; i < 200; i++) {
            x.add('0' + i % 10);
            y.add('9' - i % 10);
        }
        y.shortest(ONE);
        checks.same("text of the one", "0123456789".repeat(20), Checks.textOf(x));
        checks.same("text of the other", "1e0", Checks.textOf(y));
        x.clear();
        checks.due("read() of the other", ONE, () -> y.read());
    }
}
