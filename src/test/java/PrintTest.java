import java.math.BigDecimal;
import java.math.RoundingMode;

/** Promise 5: print. */
public final class PrintTest {
    private static final Checks checks = new Checks();

    public static void main(String[] args) {
        printsOrdinaryOnes();
        printsTies();
        printsZeros();
        printsTheEnds();
        printsManyUnlikeOnes();
        refusesBadPlaces();
        refusesWhatIsNoNumber();
        replacesTheText();
        checks.finish();
    }

    private static void due(double number, int places, String want) {
        dueLong(Double.doubleToRawLongBits(number), places, want);
    }

    private static void dueLong(long v, int places, String want) {
        due(new DoubleText(), v, places, want);
    }

    private static void due(DoubleText x, long v, int places, String want) {
        String call = "print(" + v + ", " + places + ")";
        checks.due(call, want.length(), () -> x.print(v, places));
        checks.same("text after " + call, want, Checks.textOf(x));
    }

    private static void printsOrdinaryOnes() {
        due(1, 0, "1");
        due(1, 1, "1.0");
        due(-1.5, 3, "-1.500");
        due(0.1, 1, "0.1");
        due(0.1, 30, "0.100000000000000005551115123126");
        due(123456.789, 2, "123456.79");
        due(999999999.96, 1, "1000000000.0");
        due(0.999, 2, "1.00");
        due(9.5, 0, "10");
        due(99.99, 0, "100");
        due(1e9, 0, "1000000000");
        due(1e-9, 9, "0.000000001");
        due(1e-9, 8, "0.00000000");
        due(1e23, 0, "99999999999999991611392");
        due(1e18, 1, "1000000000000000000.0");
    }

    private static void printsTies() {
        due(0.5, 0, "0");
        due(1.5, 0, "2");
        due(2.5, 0, "2");
        due(3.5, 0, "4");
        due(-0.5, 0, "-0");
        due(-2.5, 0, "-2");
        due(0.125, 2, "0.12");
        due(0.375, 2, "0.38");
        due(0.25, 1, "0.2");
        due(0.75, 1, "0.8");
        due(0.5000000000000001, 0, "1");
        due(0.49999999999999994, 0, "0");
        due(Math.scalb(1.0, -10), 9, "0.000976562");
        due(Math.scalb(3.0, -10), 9, "0.002929688");
        due(Math.scalb(1.0, -19), 18, "0.000001907348632812");
        due(Math.scalb(3.0, -19), 18, "0.000005722045898438");
        due(Math.scalb(1.0, -31), 30, "0.000000000465661287307739257812");
        due(Math.scalb(999999999.5, 0), 0, "1000000000");
        due(8.5, 0, "8");
    }

    private static void printsZeros() {
        dueLong(0L, 0, "0");
        dueLong(0L, 1, "0.0");
        dueLong(0L, 30, "0." + "0".repeat(30));
        due(-0.0, 0, "-0");
        due(-0.0, 2, "-0.00");
        due(-1e-40, 30, "-0." + "0".repeat(30));
    }

    private static void printsTheEnds() {
        String most = new BigDecimal(Double.MAX_VALUE).toPlainString();
        due(Double.MAX_VALUE, 0, most);
        due(-Double.MAX_VALUE, 30, "-" + most + "." + "0".repeat(30));
        dueLong(1L, 0, "0");
        dueLong(1L, 30, "0." + "0".repeat(30));
        due(-Double.MIN_VALUE, 30, "-0." + "0".repeat(30));
        dueLong(0x000FFFFFFFFFFFFFL, 30, "0." + "0".repeat(30));
        due(5e-31, 30, "0." + "0".repeat(29) + "1");
        due(4.9e-31, 30, "0." + "0".repeat(30));
    }

    private static void printsManyUnlikeOnes() {
        for (long i = 0; i < 20000; i++) {
            long low = Checks.scrambled(i) & 0x800FFFFFFFFFFFFFL;
            // every second one near 1, where the places count
            long exponent = i % 2 == 0 ? i % 2047 : 923 + i % 160;
            printAsDue(low | exponent << 52, (int) (i % 31));
            printAsDue(few(low, i) | exponent << 52, (int) (i % 31));
        }
    }

    /** With few bits set halfway cases are common. */
    private static long few(long low, long i) {
        return low & -1L << 42 + i % 10;
    }

    private static void printAsDue(long v, int places) {
        BigDecimal exact = new BigDecimal(Double.longBitsToDouble(v & Long.MAX_VALUE));
        String want = exact.setScale(places, RoundingMode.HALF_EVEN).toPlainString();
        dueLong(v, places, v < 0 ? "-" + want : want);
    }

    private static void refusesBadPlaces() {
        DoubleText x = Checks.holding("abc");
        for (int places : new int[] {-1, 31, 32, 400, Integer.MIN_VALUE, Integer.MAX_VALUE}) {
            for (long v : new long[] {0, 1, 4607182418800017408L, 0x7FF0000000000000L, -1L}) {
                checks.dueBad("print(" + v + ", " + places + ")", () -> x.print(v, places));
            }
        }
        checks.same("text after bad prints", "abc", Checks.textOf(x));
    }

    private static void refusesWhatIsNoNumber() {
        DoubleText x = Checks.holding("abc");
        long[] none = {
            0x7FF0000000000000L, 0xFFF0000000000000L, 0x7FF0000000000001L, 0x7FF8000000000000L, -1L, Long.MAX_VALUE
        };
        for (long v : none) {
            checks.dueRefused("print(" + v + ", 0)", () -> x.print(v, 0));
            checks.dueRefused("print(" + v + ", 30)", () -> x.print(v, 30));
        }
        checks.same("text after refused prints", "abc", Checks.textOf(x));
    }

    private static void replacesTheText() {
        DoubleText x = Checks.holding("7".repeat(400));
        due(x, Double.doubleToRawLongBits(2.25), 1, "2.2");
        due(x, Double.doubleToRawLongBits(-1e5), 0, "-100000");
        due(x, 0, 0, "0");
        DoubleText reused = new DoubleText();
        for (int places = 0; places <= 30; places++) {
            checks.due("length", places == 0 ? 1 : places + 2, places(reused, places));
        }
        checks.due("read() of a printed text", Double.doubleToRawLongBits(0.1), () -> reused.read());
    }

    private static Checks.Call places(DoubleText x, int places) {
        return () -> x.print(Double.doubleToRawLongBits(0.1), places);
    }
}
