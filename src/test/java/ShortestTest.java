import java.math.BigDecimal;
import java.math.MathContext;
import java.math.RoundingMode;

/** Promise 6: shortest. */
public final class ShortestTest {
    private static final Checks checks = new Checks();

    public static void main(String[] args) {
        writesOrdinaryOnes();
        writesZeros();
        writesTheEnds();
        writesPowersOfTwo();
        writesPowersOfTen();
        writesManyUnlikeOnes();
        refusesWhatIsNoNumber();
        replacesTheText();
        checks.finish();
    }

    private static void due(double number, String want) {
        due(new DoubleText(), Double.doubleToRawLongBits(number), want);
    }

    private static void due(DoubleText x, long v, String want) {
        String call = "shortest(" + v + ")";
        checks.due(call, want.length(), () -> x.shortest(v));
        checks.same("text after " + call, want, Checks.textOf(x));
        checks.due("read() after " + call, v, () -> x.read());
    }

    private static void writesOrdinaryOnes() {
        due(1, "1e0");
        due(-1, "-1e0");
        due(10, "1e1");
        due(0.1, "1e-1");
        due(1.5, "1.5e0");
        due(123.456, "1.23456e2");
        due(-0.00012, "-1.2e-4");
        due(100, "1e2");
        due(1.0 / 3, "3.333333333333333e-1");
        due(2.0 / 3, "6.666666666666666e-1");
        due(0.1 + 0.2, "3.0000000000000004e-1");
        due(9007199254740993.0, "9.007199254740992e15");
        due(1e10, "1e10");
        due(1e100, "1e100");
        due(1e-100, "1e-100");
        due(9.5, "9.5e0");
    }

    private static void writesZeros() {
        due(0.0, "0e0");
        due(-0.0, "-0e0");
    }

    private static void writesTheEnds() {
        due(Double.MAX_VALUE, "1.7976931348623157e308");
        due(-Double.MAX_VALUE, "-1.7976931348623157e308");
        due(Double.MIN_VALUE, "5e-324");
        due(-Double.MIN_VALUE, "-5e-324");
        due(2 * Double.MIN_VALUE, "1e-323");
        due(3 * Double.MIN_VALUE, "1.5e-323");
        due(Double.MIN_NORMAL, "2.2250738585072014e-308");
        due(Double.longBitsToDouble(0x000FFFFFFFFFFFFFL), "2.225073858507201e-308");
        // these are rounded up into one digit more
        due(1e23, "1e23");
        due(Double.longBitsToDouble(Double.doubleToRawLongBits(1e23) + 1), "1.0000000000000001e23");
        due(Double.longBitsToDouble(Double.doubleToRawLongBits(1e23) - 1), "9.999999999999997e22");
    }

    private static void writesPowersOfTwo() {
        for (long exponent = 0; exponent < 2047; exponent++) {
            for (long v = (exponent << 52) - 2; v <= (exponent << 52) + 2; v++) {
                if (v > 0) {
                    writeAsDue(v);
                }
            }
        }
        for (long bit = 1; bit < 1L << 52; bit *= 2) {
            writeAsDue(bit);
            writeAsDue(bit + 1);
            writeAsDue(bit | Long.MIN_VALUE);
        }
    }

    private static void writesPowersOfTen() {
        for (int power = -323; power <= 308; power++) {
            long v = Double.doubleToRawLongBits(Double.parseDouble("1e" + power));
            due(new DoubleText(), v, "1e" + power);
            writeAsDue(v + 1);
            writeAsDue(v - 1);
        }
    }

    private static void writesManyUnlikeOnes() {
        for (long i = 0; i < 20000; i++) {
            writeAsDue(Checks.scrambled(i) & 0x800FFFFFFFFFFFFFL | (i % 2047) << 52);
            String few = (i % 1000 + 1) + "e" + (i % 600 - 305);
            writeAsDue(Double.doubleToRawLongBits(Double.parseDouble(few)));
        }
        for (long v = 1; v < 2000; v++) {
            writeAsDue(v);
        }
    }

    private static void writeAsDue(long v) {
        due(new DoubleText(), v, fewestDigits(v));
    }

    /** The promise's own words: rounded to 1, 2, 3 .. digits until it reads back. */
    private static String fewestDigits(long v) {
        double size = Double.longBitsToDouble(v & Long.MAX_VALUE);
        for (int digits = 1;; digits++) {
            BigDecimal round = new BigDecimal(size).round(new MathContext(digits, RoundingMode.HALF_EVEN));
            if (Double.parseDouble(round.toString()) == size) {
                return (v < 0 ? "-" : "") + spelled(round, digits);
            }
        }
    }

    private static String spelled(BigDecimal number, int digits) {
        int power = number.precision() - number.scale() - 1;
        String all = (number.unscaledValue() + "0".repeat(digits)).substring(0, digits);
        return all.charAt(0) + (digits > 1 ? "." + all.substring(1) : "") + "e" + power;
    }

    private static void refusesWhatIsNoNumber() {
        DoubleText x = Checks.holding("abc");
        long[] none = {
            0x7FF0000000000000L, 0xFFF0000000000000L, 0x7FF0000000000001L, 0x7FF8000000000000L, -1L, Long.MAX_VALUE
        };
        for (long v : none) {
            checks.dueRefused("shortest(" + v + ")", () -> x.shortest(v));
        }
        checks.same("text after refused calls", "abc", Checks.textOf(x));
    }

    private static void replacesTheText() {
        DoubleText x = Checks.holding("7".repeat(100));
        due(x, Double.doubleToRawLongBits(-2.25e-7), "-2.25e-7");
        due(x, Double.doubleToRawLongBits(4), "4e0");
        due(x, Double.doubleToRawLongBits(1e300), "1e300");
        due(x, Double.doubleToRawLongBits(Double.MIN_VALUE), "5e-324");
        due(x, 0, "0e0");
        checks.due("add behind it", 4, () -> x.add('1'));
        checks.due("read() of 0e01", 0, () -> x.read());
    }
}
