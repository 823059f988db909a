import java.math.BigDecimal;
import java.math.MathContext;
import java.math.RoundingMode;
import java.util.NoSuchElementException;

/** All promises at once: long mixed runs of calls, each answer held against a plain model of the document. */
public final class RunsTest {
    private static final Checks checks = new Checks();
    private static final int RUNS = 1000;
    private static final int CALLS = 512;
    private static final long SIGN = 1L << 63;
    private static final long LOW_BITS = (1L << 52) - 1;
    private static final String[] NO_NUMERALS = {
        "", "-", "1.", ".1", "1e", "1e-", "1e12345", "--1", "+1", "1E5", "1.e1", "1..1", "1e1.5", "1 ", "\u00ff"
    };

    public static void main(String[] args) {
        theExampleOfTheReadme();
        mixedRuns();
        checks.finish();
    }

    private static void theExampleOfTheReadme() {
        DoubleText x = Checks.holding("0.1");
        checks.due("read() of 0.1", Double.doubleToRawLongBits(0.1), () -> x.read());
        long v = x.read();
        checks.due("print(0.1, 20)", 22, () -> x.print(v, 20));
        checks.same("text after print", "0.10000000000000000555", Checks.textOf(x));
        checks.due("shortest(0.1)", 4, () -> x.shortest(v));
        checks.same("text after shortest", "1e-1", Checks.textOf(x));
        checks.due("letter(0)", '1', () -> x.letter(0));
        x.clear();
        checks.same("text after clear", "", Checks.textOf(x));
    }

    private static void mixedRuns() {
        for (int run = 0; run < RUNS; run++) {
            new Run(run).go();
        }
    }

    /** The document's words over texts and exact decimals of the Java library. */
    private static final class Model {
        private final StringBuilder text = new StringBuilder();

        long clear() {
            text.setLength(0);
            return 0;
        }

        long add(int b) {
            if (b < 0 || b > 255) {
                throw new IllegalArgumentException();
            }
            if (text.length() == 400) {
                throw new IllegalStateException();
            }
            text.append((char) b);
            return text.length();
        }

        long read() {
            if (!text.toString().matches("-?[0-9]+([.][0-9]+)?(e-?[0-9]{1,4})?")) {
                throw new IllegalStateException();
            }
            return Double.doubleToRawLongBits(Double.parseDouble(text.toString()));
        }

        long print(long v, int places) {
            if (places < 0 || places > 30) {
                throw new IllegalArgumentException();
            }
            return write(v, exact(v).setScale(places, RoundingMode.HALF_EVEN).toPlainString());
        }

        long shortest(long v) {
            BigDecimal exact = exact(v);
            if (exact.signum() == 0) {
                return write(v, "0e0");
            }
            BigDecimal few = exact;
            for (int digits = 1; digits <= 17; digits++) {
                few = exact.round(new MathContext(digits, RoundingMode.HALF_EVEN));
                if (Double.parseDouble(few.toString()) == exact.doubleValue()) {
                    break;
                }
            }
            String digits = few.stripTrailingZeros().unscaledValue().toString();
            String behind = digits.length() > 1 ? "." + digits.substring(1) : "";
            return write(v, digits.charAt(0) + behind + "e" + (few.precision() - few.scale() - 1));
        }

        long letter(int i) {
            if (i < 0 || i >= text.length()) {
                throw new NoSuchElementException();
            }
            return text.charAt(i);
        }

        private static BigDecimal exact(long v) {
            double size = Double.longBitsToDouble(v & ~SIGN);
            if (Double.isNaN(size) || Double.isInfinite(size)) {
                throw new IllegalStateException();
            }
            return new BigDecimal(size);
        }

        private long write(long v, String size) {
            text.setLength(0);
            text.append(v < 0 ? "-" : "").append(size);
            return text.length();
        }
    }

    /** One object for at most 512 calls; which ones, its number tells. */
    private static final class Run {
        private final int number;
        private final DoubleText real = new DoubleText();
        private final Model model = new Model();
        private int calls = 0;
        private long drawn;

        Run(int number) {
            this.number = number;
            drawn = (long) number << 32;
        }

        void go() {
            while (calls < CALLS) {
                step();
            }
        }

        private int draw(int bound) {
            drawn++;
            return (int) Math.floorMod(Checks.scrambled(drawn), (long) bound);
        }

        private void step() {
            switch (draw(10)) {
                case 0 -> clear();
                case 1 -> add(draw(300) - 20);
                case 2, 3 -> spell(numeral());
                case 4 -> spell(NO_NUMERALS[draw(NO_NUMERALS.length)]);
                case 5 -> spell(nearHalfway());
                case 6, 7 -> print(someLong(), draw(33) - 1);
                case 8 -> shortest(someLong());
                default -> add("0123456789.-e".charAt(draw(13)));
            }
            read();
            lookAround();
        }

        /** A short text whole, a long one here and there, and what stands beside it. */
        private void lookAround() {
            int length = model.text.length();
            letter(-1 - draw(2));
            for (int look = 0; look < Math.min(length, 30); look++) {
                letter(length <= 30 ? look : draw(length));
            }
            letter(length);
            letter(length + draw(400));
        }

        private void spell(String text) {
            // behind what stands there, now and then
            if (draw(4) > 0) {
                clear();
            }
            for (int i = 0; i < text.length(); i++) {
                add(text.charAt(i));
            }
        }

        private String numeral() {
            StringBuilder text = new StringBuilder(draw(3) == 0 ? "-" : "");
            text.append(digits(1 + draw(12)));
            if (draw(2) == 0) {
                text.append('.').append(digits(1 + draw(draw(8) == 0 ? 150 : 10)));
            }
            if (draw(2) == 0) {
                text.append('e').append(draw(2) == 0 ? "-" : "").append(draw(draw(4) == 0 ? 10000 : 330));
            }
            return text.toString();
        }

        private String digits(int count) {
            StringBuilder text = new StringBuilder();
            for (int i = 0; i < count; i++) {
                text.append(draw(3) == 0 ? 0 : draw(10));
            }
            return text.toString();
        }

        /** Halfway between two numbers, or next to it. */
        private String nearHalfway() {
            double low = Double.longBitsToDouble((long) (1013 + draw(80)) << 52 | LOW_BITS & draw(1 << 30));
            BigDecimal half = new BigDecimal(low).add(new BigDecimal(Math.nextUp(low))).divide(BigDecimal.valueOf(2));
            BigDecimal off = new BigDecimal("1e-90").multiply(BigDecimal.valueOf(draw(3) - 1));
            return half.add(off).toPlainString();
        }

        private long someLong() {
            long sign = draw(2) == 0 ? SIGN : 0;
            long low = Checks.scrambled(drawn) & LOW_BITS;
            return switch (draw(8)) {
                case 0 -> sign | draw(5);
                case 1 -> sign | (long) draw(2048) << 52;
                case 2 -> sign | 2047L << 52 | draw(2);
                case 3 -> sign | 2046L << 52 | LOW_BITS - draw(2);
                // few bits and near 1, where halfway cases are common
                case 4 -> sign | (long) (1013 + draw(20)) << 52 | low & -1L << 44;
                case 5 -> sign | (long) (923 + draw(160)) << 52 | low;
                default -> sign | (long) draw(2048) << 52 | low;
            };
        }

        private void clear() {
            due("clear()", () -> model.clear(), () -> {
                real.clear();
                return 0;
            });
        }

        private void add(int b) {
            due("add(" + b + ")", () -> model.add(b), () -> real.add(b));
        }

        private void read() {
            due("read()", () -> model.read(), () -> real.read());
        }

        private void print(long v, int places) {
            due("print(" + v + ", " + places + ")", () -> model.print(v, places), () -> real.print(v, places));
        }

        private void shortest(long v) {
            due("shortest(" + v + ")", () -> model.shortest(v), () -> real.shortest(v));
        }

        private void letter(int i) {
            due("letter(" + i + ")", () -> model.letter(i), () -> real.letter(i));
        }

        private void due(String call, Checks.Call want, Checks.Call got) {
            if (calls == CALLS) {
                return;
            }
            calls++;
            String where = "run " + number + ", call " + calls + ": " + call;
            checks.same(where, Checks.outcome(want), Checks.outcome(got));
        }
    }
}
