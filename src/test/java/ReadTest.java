import java.math.BigDecimal;
import java.math.BigInteger;

/** Promise 4: read. */
public final class ReadTest {
    private static final Checks checks = new Checks();
    private static final long SIGN = Long.MIN_VALUE;
    private static final long BEYOND = 0x7FF0000000000000L;
    private static final long MOST = 0x7FEFFFFFFFFFFFFFL;
    private static final long ONE = 0x3FF0000000000000L;

    public static void main(String[] args) {
        readsOrdinaryOnes();
        readsZeros();
        readsPowersOfTen();
        readsTheLargest();
        readsTheSmallest();
        readsTies();
        readsLongTexts();
        readsManyUnlikeOnes();
        refusesWhatIsNoNumeral();
        readingChangesNothing();
        checks.finish();
    }

    private static void due(String text, long want) {
        DoubleText x = Checks.holding(text);
        checks.due("read() of " + text, want, () -> x.read());
        checks.due("read() again of " + text, want, () -> x.read());
    }

    private static void dueBothSigns(String text, long want) {
        due(text, want);
        due("-" + text, want | SIGN);
    }

    private static void readsOrdinaryOnes() {
        dueBothSigns("1", ONE);
        dueBothSigns("10", 0x4024000000000000L);
        dueBothSigns("0.1", 0x3FB999999999999AL);
        dueBothSigns("0.5", 0x3FE0000000000000L);
        dueBothSigns("3.14159", Double.doubleToRawLongBits(3.14159));
        dueBothSigns("123456789.987654321", Double.doubleToRawLongBits(123456789.987654321));
        dueBothSigns("1.0", ONE);
        dueBothSigns("0001.000", ONE);
        dueBothSigns("9.5e0", 0x4023000000000000L);
    }

    private static void readsZeros() {
        for (String zero : new String[] {"0", "00", "0.0", "000.000", "0e0", "0e9999", "0.00e-9999"}) {
            dueBothSigns(zero, 0);
        }
        dueBothSigns("0".repeat(399), 0);
    }

    private static void readsPowersOfTen() {
        dueBothSigns("1e0", ONE);
        dueBothSigns("1e-0", ONE);
        dueBothSigns("1e0000", ONE);
        dueBothSigns("10e-1", ONE);
        dueBothSigns("0.001e3", ONE);
        dueBothSigns("1000e-0003", ONE);
        dueBothSigns("1e22", Double.doubleToRawLongBits(1e22));
        dueBothSigns("1e23", Double.doubleToRawLongBits(1e23));
        for (int power = -330; power <= 310; power++) {
            dueBothSigns("1e" + power, Double.doubleToRawLongBits(Double.parseDouble("1e" + power)));
        }
    }

    private static void readsTheLargest() {
        BigInteger edge = BigInteger.TWO.pow(1024).subtract(BigInteger.TWO.pow(970));
        dueBothSigns(edge.toString(), BEYOND);
        dueBothSigns(edge + ".0", BEYOND);
        dueBothSigns(edge.subtract(BigInteger.ONE) + ".9", MOST);
        dueBothSigns(edge.subtract(BigInteger.ONE) + "." + "9".repeat(89), MOST);
        dueBothSigns(edge + "." + "0".repeat(88) + "1", BEYOND);
        dueBothSigns(new BigDecimal(Double.MAX_VALUE).toPlainString(), MOST);
        dueBothSigns(BigInteger.TWO.pow(1024).toString(), BEYOND);
        dueBothSigns("1.7976931348623157e308", MOST);
        dueBothSigns("1.797693134862315807e308", MOST);
        dueBothSigns("1.797693134862315808e308", BEYOND);
        dueBothSigns("9.9e308", BEYOND);
        dueBothSigns("1e309", BEYOND);
        dueBothSigns("0.1e310", BEYOND);
        dueBothSigns("1e9999", BEYOND);
        dueBothSigns("9".repeat(308), Double.doubleToRawLongBits(1e308));
        dueBothSigns("9".repeat(309), BEYOND);
        dueBothSigns("9".repeat(399), BEYOND);
        dueBothSigns("0." + "0".repeat(390) + "1e699", Double.doubleToRawLongBits(1e308));
    }

    private static void readsTheSmallest() {
        BigDecimal least = new BigDecimal(Double.MIN_VALUE);
        BigDecimal half = least.divide(BigDecimal.valueOf(2));
        String halfDigits = half.unscaledValue().toString();
        String shortHalf = halfDigits.substring(0, 1) + "." + halfDigits.substring(1, 300) + "e-324";
        dueBothSigns(shortHalf, 0);
        dueBothSigns(halfDigits.charAt(0) + "." + halfDigits.substring(1, 299) + "9e-324", 1);
        dueBothSigns("2.4703282292062327e-324", 0);
        dueBothSigns("2.4703282292062328e-324", 1);
        dueBothSigns("4.9e-324", 1);
        dueBothSigns("7.4e-324", 1);
        dueBothSigns("7.5e-324", 2);
        dueBothSigns("9.9e-325", 0);
        dueBothSigns("9e-325", 0);
        dueBothSigns("1e-324", 0);
        dueBothSigns("3e-324", 1);
        dueBothSigns("1e-9999", 0);
        dueBothSigns("9".repeat(390) + "e-9999", 0);
        dueBothSigns("9".repeat(390) + "e-714", 0);
        dueBothSigns("9".repeat(390) + "e-713", 2);
        dueBothSigns("2.2250738585072011e-308", 0x000FFFFFFFFFFFFFL);
        dueBothSigns("2.2250738585072014e-308", 0x0010000000000000L);
        dueBothSigns("2.22507385850720125e-308", 0x0010000000000000L);
    }

    private static void readsTies() {
        due("9007199254740992", 0x4340000000000000L);
        due("9007199254740993", 0x4340000000000000L);
        due("9007199254740993.0000000000000000000000000001", 0x4340000000000001L);
        due("9007199254740992.9999999999999999999999999999", 0x4340000000000000L);
        due("9007199254740994", 0x4340000000000001L);
        due("9007199254740995", 0x4340000000000002L);
        due("9007199254740991.5", 0x4340000000000000L);
        due("4503599627370496.5", 0x4330000000000000L);
        due("4503599627370497.5", 0x4330000000000002L);
        for (long i = 0; i < 2000; i++) {
            // sizes whose halfway points fit into 400 bytes
            long bits = Checks.scrambled(i) & 0x000FFFFFFFFFFFFFL | (823 + i % 1200) << 52;
            BigDecimal middle = middleAbove(bits);
            long even = bits + (bits & 1);
            String text = middle.toPlainString();
            if (text.length() < 380) {
                due(text, even);
                due(text + (text.indexOf('.') < 0 ? ".0" : "0") + "000000001", bits + 1);
            }
        }
    }

    private static BigDecimal middleAbove(long bits) {
        BigDecimal here = new BigDecimal(Double.longBitsToDouble(bits));
        BigDecimal next = new BigDecimal(Double.longBitsToDouble(bits + 1));
        return here.add(next).divide(BigDecimal.valueOf(2));
    }

    private static void readsLongTexts() {
        due("1" + "0".repeat(394) + "e-394", ONE);
        due("0." + "0".repeat(392) + "1e393", ONE);
        due("1." + "0".repeat(398), ONE);
        due("1." + "0".repeat(397) + "1", ONE);
        due("1.00000000000000011102230246251565404236316680908203125" + "0".repeat(340), ONE);
        due("1.00000000000000011102230246251565404236316680908203125" + "0".repeat(340) + "1", ONE + 1);
        due("-" + "1".repeat(399), BEYOND | SIGN);
    }

    private static void readsManyUnlikeOnes() {
        for (long i = 0; i < 20000; i++) {
            String text = unlikeNumeral(i);
            DoubleText x = Checks.holding(text);
            checks.due("read() of " + text, Double.doubleToRawLongBits(Double.parseDouble(text)), () -> x.read());
        }
    }

    private static String unlikeNumeral(long i) {
        StringBuilder text = new StringBuilder();
        long kind = Checks.scrambled(3 * i);
        if ((kind & 1) == 1) {
            text.append('-');
        }
        int digits = 1 + (int) ((kind >>> 1) % ((kind & 2) == 0 ? 20 : 380));
        int point = (int) ((kind >>> 20 & 0xFFFF) % (2 * digits));
        for (int k = 0; k < digits; k++) {
            if (k == point && k > 0) {
                text.append('.');
            }
            text.append((char) ('0' + Math.floorMod(Checks.scrambled(1000 * i + k), 10)));
        }
        long spread = (kind & 4) == 0 ? 30 : 360;
        if ((kind & 8) == 0) {
            long power = Math.floorMod(Checks.scrambled(3 * i + 1), 2 * spread) - spread;
            text.append('e').append((kind & 16) == 0 ? power : power - digits);
        }
        return text.toString();
    }

    private static void refusesWhatIsNoNumeral() {
        String[] texts = {
            "", "-", "--1", "+1", "1-", ".", ".5", "-.5", "5.", "-5.", "5.e1", "1..2", "1.2.3", "e", "e5", "-e5",
            "1e", "1e-", "1e--1", "1e+1", "1e12345", "1e-12345", "1e00000", "1e1.5", "1e1e1", "1E5", " 1", "1 ", "1 2",
            "0x1", "NaN", "Infinity", "1e 5", "1,5", "1e5-", "1.5e", "1.-5", "1/2", "1:2", "\u0000", "1\u0000",
            "\u00b1" + "1", "1.\u00b2", "1e\u00ff", "1f", "1d", "1e1/", "1e:"
        };
        for (String text : texts) {
            DoubleText x = Checks.holding(text);
            checks.dueRefused("read() of '" + text + "'", () -> x.read());
            checks.same("text after a refused read", text, Checks.textOf(x));
        }
        DoubleText full = Checks.holding("1".repeat(399) + "e");
        checks.dueRefused("read() of 400 bytes that end with e", () -> full.read());
        DoubleText point = Checks.holding("1".repeat(399) + ".");
        checks.dueRefused("read() of 400 bytes that end with a point", () -> point.read());
        DoubleText minus = Checks.holding("1".repeat(398) + "e-");
        checks.dueRefused("read() of 400 bytes that end with e-", () -> minus.read());
    }

    private static void readingChangesNothing() {
        DoubleText x = Checks.holding("-12.50e1");
        x.read();
        checks.same("text after read", "-12.50e1", Checks.textOf(x));
        checks.due("add after read", 9, () -> x.add('2'));
        checks.due("read() of -12.50e12", Double.doubleToRawLongBits(-12.50e12), () -> x.read());
        x.add('a');
        checks.dueRefused("read() of -12.50e12a", () -> x.read());
        x.clear();
        Checks.append(x, "7");
        checks.due("read() of 7 after a refused one", Double.doubleToRawLongBits(7), () -> x.read());
    }
}
