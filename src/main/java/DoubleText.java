import java.util.NoSuchElementException;

/**
 * Floating-point numbers as text: read to the nearest one, printed to any
 * place, or with as few digits as read back.
 */
public final class DoubleText {
    private static final int MOST_BYTES = 400;
    private static final int MOST_PLACES = 30;
    private static final int MOST_POWER_DIGITS = 4;

    /** So many digits tell any two numbers apart. */
    private static final int MOST_DIGITS = 17;

    /** What has its first digit above this place is BEYOND. */
    private static final int HIGHEST_PLACE = 308;

    /** What has its first digit below this place is nearest to 0. */
    private static final int LOWEST_PLACE = -324;

    private static final long SIGN = 1L << 63;
    private static final long BEYOND = 2047L << 52;
    private static final int LONG_BITS = 64;
    private static final int MANTISSA_BITS = 53;
    private static final long HIDDEN_BIT = 1L << 52;

    /** A number's size is its mantissa times 2 to a power from least to most. */
    private static final int LEAST_POWER = -1074;
    private static final int MOST_POWER = 971;

    /** Far above the passes that any numeral needs, of 33 bits each. */
    private static final int MOST_PASSES = 100;

    private final int[] text;
    private int length;

    /** Where the numeral's parts stand in the text, told by scanNumeral. */
    private int digitsStart;
    private int digitsEnd;
    private int unitsAt;
    private int tenPower;

    private final Decimal number;
    private final Decimal rounded;
    private final Decimal lowEdge;
    private final Decimal highEdge;

    public DoubleText() {
        text = new int[MOST_BYTES];
        number = new Decimal();
        rounded = new Decimal();
        lowEdge = new Decimal();
        highEdge = new Decimal();
    }

    public void clear() {
        length = 0;
    }

    public int add(int b) throws IllegalArgumentException, IllegalStateException {
        if (b < 0 || b > 255) {
            throw new IllegalArgumentException();
        }
        if (length >= MOST_BYTES) {
            throw new IllegalStateException();
        }
        put(b);
        return length;
    }

    public long read() throws IllegalStateException {
        if (!scanNumeral()) {
            throw new IllegalStateException();
        }
        long size = nearestToNumeral();
        return isAt(0, '-') ? size | SIGN : size;
    }

    public int print(long v, int places) throws IllegalArgumentException, IllegalStateException {
        if (places < 0 || places > MOST_PLACES) {
            throw new IllegalArgumentException();
        }
        if (isNone(v)) {
            throw new IllegalStateException();
        }
        number.takeScaled(mantissaOf(v), powerOf(v));
        rounded.takeRounded(number, -places);
        startText(v);
        putDigits(Math.max(0, rounded.topPlace()), 0);
        if (places > 0) {
            put('.');
            putDigits(-1, -places);
        }
        return length;
    }

    public int shortest(long v) throws IllegalStateException {
        if (isNone(v)) {
            throw new IllegalStateException();
        }
        startText(v);
        if (mantissaOf(v) == 0) {
            put('0');
            putPower(0);
        } else {
            putShortest(mantissaOf(v), powerOf(v));
        }
        return length;
    }

    public int letter(int i) throws NoSuchElementException {
        if (i < 0 || i >= length) {
            throw new NoSuchElementException();
        }
        return text[i];
    }

    private static boolean isNone(long v) {
        return (v & BEYOND) == BEYOND;
    }

    private static long mantissaOf(long v) {
        long low = v & (HIDDEN_BIT - 1);
        return (v & BEYOND) == 0 ? low : low + HIDDEN_BIT;
    }

    private static int powerOf(long v) {
        int exponent = (int) ((v & BEYOND) >>> 52);
        return Math.max(exponent, 1) - 1 + LEAST_POWER;
    }

    private boolean isAt(int at, int b) {
        return at < length && text[at] == b;
    }

    /** Whether the text is a numeral; if so its parts are told. */
    private boolean scanNumeral() {
        digitsStart = isAt(0, '-') ? 1 : 0;
        digitsEnd = endOfDigits(digitsStart);
        unitsAt = digitsEnd - 1;
        if (digitsEnd == digitsStart) {
            return false;
        }
        if (isAt(digitsEnd, '.')) {
            int behindPoint = digitsEnd + 1;
            digitsEnd = endOfDigits(behindPoint);
            if (digitsEnd == behindPoint) {
                return false;
            }
        }
        tenPower = 0;
        return digitsEnd == length || scanPower(digitsEnd);
    }

    private boolean scanPower(int at) {
        if (!isAt(at, 'e')) {
            return false;
        }
        boolean isBelowZero = isAt(at + 1, '-');
        int start = isBelowZero ? at + 2 : at + 1;
        int end = endOfDigits(start);
        if (end == start || end - start > MOST_POWER_DIGITS || end != length) {
            return false;
        }
        for (int i = start; i < end; i++) {
            tenPower = tenPower * 10 + text[i] - '0';
        }
        if (isBelowZero) {
            tenPower = -tenPower;
        }
        return true;
    }

    private int endOfDigits(int start) {
        int at = start;
        while (at < length && text[at] >= '0' && text[at] <= '9') {
            at++;
        }
        return at;
    }

    private long nearestToNumeral() {
        int lead = leadingDigit();
        if (lead == digitsEnd || placeOf(lead) < LOWEST_PLACE) {
            return 0;
        }
        if (placeOf(lead) > HIGHEST_PLACE) {
            return BEYOND;
        }
        number.wipe();
        for (int at = lead; at < digitsEnd; at++) {
            if (text[at] != '.') {
                number.setDigit(placeOf(at), text[at] - '0');
            }
        }
        return nearestToNumber();
    }

    /** Where the first digit above 0 stands, or the digits' end. */
    private int leadingDigit() {
        int at = digitsStart;
        while (at < digitsEnd && (text[at] == '0' || text[at] == '.')) {
            at++;
        }
        return at;
    }

    private int placeOf(int at) {
        // the point takes a byte of the text but no place
        int digitsBehindUnits = at > unitsAt ? at - unitsAt - 1 : at - unitsAt;
        return tenPower - digitsBehindUnits;
    }

    /** The LONG without its sign; it uses the number up. */
    private long nearestToNumber() {
        int scaledBy = 0;
        for (int pass = 0; pass < MOST_PASSES && number.isWide(); pass++) {
            number.scale(-Decimal.PASS_BITS);
            scaledBy += Decimal.PASS_BITS;
        }
        for (int pass = 0; pass < MOST_PASSES; pass++) {
            int bits = bitsToScale(scaledBy);
            if (bits == 0) {
                break;
            }
            number.scale(bits);
            scaledBy -= bits;
        }
        rounded.takeRounded(number, 0);
        return joined(rounded.whole(), scaledBy);
    }

    /** How far the whole part is from 53 bits, as far as one pass and the least power let it go. */
    private int bitsToScale(int scaledBy) {
        int bits = LONG_BITS - Long.numberOfLeadingZeros(number.whole());
        int pass = Math.min(MANTISSA_BITS - bits, Decimal.PASS_BITS);
        return Math.min(pass, scaledBy - LEAST_POWER);
    }

    private static long joined(long mantissa, int scaledBy) {
        if (scaledBy > MOST_POWER) {
            return BEYOND;
        }
        // the hidden bit, or a mantissa rounded up to 2^53, counts E up by itself
        return ((long) (scaledBy - LEAST_POWER) << 52) + mantissa;
    }

    private void putShortest(long mantissa, int scaledBy) {
        number.takeScaled(mantissa, scaledBy);
        takeEdges(mantissa, scaledBy);
        int digits = roundToFewest(mantissa % 2 == 0);
        int top = rounded.topPlace();
        putDigits(top, top);
        if (digits > 1) {
            put('.');
            putDigits(top - 1, top - digits + 1);
        }
        putPower(top);
    }

    /** The edges lie halfway to the numbers next to this one. */
    private void takeEdges(long mantissa, int scaledBy) {
        // below a power of 2 the numbers lie twice as close
        boolean isCloserBelow = mantissa == HIDDEN_BIT && scaledBy > LEAST_POWER;
        long quarters = 4 * mantissa;
        lowEdge.takeScaled(quarters - (isCloserBelow ? 1 : 2), scaledBy - 2);
        highEdge.takeScaled(quarters + 2, scaledBy - 2);
    }

    private int roundToFewest(boolean isEven) {
        int top = number.topPlace();
        for (int digits = 1; digits < MOST_DIGITS; digits++) {
            rounded.takeRounded(number, top - digits + 1);
            if (isBetweenEdges(isEven)) {
                return digits;
            }
        }
        rounded.takeRounded(number, top - MOST_DIGITS + 1);
        return MOST_DIGITS;
    }

    private boolean isBetweenEdges(boolean withEdges) {
        int aboveLow = rounded.comparedTo(lowEdge);
        int belowHigh = highEdge.comparedTo(rounded);
        if (withEdges) {
            return aboveLow >= 0 && belowHigh >= 0;
        }
        return aboveLow > 0 && belowHigh > 0;
    }

    private void startText(long v) {
        length = 0;
        if (v < 0) {
            put('-');
        }
    }

    private void put(int b) {
        if (length < MOST_BYTES) {
            text[length] = b;
            length++;
        }
    }

    private void putDigits(int fromPlace, int downToPlace) {
        for (int place = fromPlace; place >= downToPlace; place--) {
            put('0' + rounded.digit(place));
        }
    }

    private void putPower(int place) {
        put('e');
        if (place < 0) {
            put('-');
        }
        int size = Math.abs(place);
        if (size >= 100) {
            put('0' + size / 100);
        }
        if (size >= 10) {
            put('0' + size / 10 % 10);
        }
        put('0' + size % 10);
    }

    /**
     * An exact decimal number from 0 up, in limbs of nine digits, the highest
     * first. It holds all that a numeral of 400 bytes or a number needs: 315
     * digits before the point, and 1125 behind it.
     */
    private static final class Decimal {
        /** With 33 bits a limb's product still fits into a long. */
        static final int PASS_BITS = 33;

        private static final int LIMB_DIGITS = 9;
        private static final long LIMB = 1000000000L;
        private static final int LIMBS = 160;
        private static final int UNITS = 34;
        private static final long[] TENS = {
            1L, 10L, 100L, 1000L, 10000L, 100000L, 1000000L, 10000000L, 100000000L
        };

        /** Limbs outside first .. last are 0, and those two are not; of 0 first is above last. */
        private final long[] limbs;
        private int first;
        private int last;

        Decimal() {
            limbs = new long[LIMBS];
            first = LIMBS;
            last = -1;
        }

        void wipe() {
            for (int i = first; i <= last; i++) {
                limbs[i] = 0;
            }
            first = LIMBS;
            last = -1;
        }

        /** The place must hold 0 so far. */
        void setDigit(int place, int digit) {
            int at = limbOf(place);
            if (at < 0 || at >= LIMBS || digit == 0) {
                return;
            }
            limbs[at] += digit * unitOf(place);
            first = Math.min(first, at);
            last = Math.max(last, at);
        }

        int digit(int place) {
            return (int) (limb(limbOf(place)) / unitOf(place) % 10);
        }

        /** The place of the first digit above 0; of 0 it is 0. */
        int topPlace() {
            long top = limb(first);
            if (top == 0) {
                return 0;
            }
            int digits = LIMB_DIGITS - 1;
            while (digits > 0 && top < TENS[digits]) {
                digits--;
            }
            return (UNITS - first) * LIMB_DIGITS + digits;
        }

        /** Whether the whole part needs more than whole() tells. */
        boolean isWide() {
            return first < UNITS - 1;
        }

        long whole() {
            return limbs[UNITS - 1] * LIMB + limbs[UNITS];
        }

        /** The size must be below 10^18. */
        void takeScaled(long size, int bits) {
            wipe();
            limbs[UNITS - 1] = size / LIMB;
            limbs[UNITS] = size % LIMB;
            first = UNITS - 1;
            last = UNITS;
            trim();
            scale(bits);
        }

        /** Times 2 to that power. */
        void scale(int bits) {
            for (int left = bits; left > 0; left -= PASS_BITS) {
                scaleUp(Math.min(left, PASS_BITS));
            }
            for (int left = -bits; left > 0; left -= PASS_BITS) {
                scaleDown(Math.min(left, PASS_BITS));
            }
        }

        private void scaleUp(int bits) {
            long carry = 0;
            for (int i = last; i >= first; i--) {
                long sum = (limbs[i] << bits) + carry;
                carry = sum / LIMB;
                limbs[i] = sum - carry * LIMB;
            }
            for (int i = first - 1; i >= 0 && carry > 0; i--) {
                limbs[i] = carry % LIMB;
                carry /= LIMB;
                first = i;
            }
            trim();
        }

        private void scaleDown(int bits) {
            long mask = (1L << bits) - 1;
            long rest = 0;
            for (int i = first; i <= last; i++) {
                long sum = rest * LIMB + limbs[i];
                limbs[i] = sum >>> bits;
                rest = sum & mask;
            }
            for (int i = last + 1; i < LIMBS && rest > 0; i++) {
                long sum = rest * LIMB;
                limbs[i] = sum >>> bits;
                rest = sum & mask;
                last = i;
            }
            trim();
        }

        /** The other number to the nearest at that place, of two the even one. */
        void takeRounded(Decimal other, int place) {
            wipe();
            int end = limbOf(place);
            if (end < 0 || end >= LIMBS) {
                return;
            }
            for (int i = other.first; i <= end; i++) {
                limbs[i] = other.limbs[i];
            }
            long unit = unitOf(place);
            limbs[end] -= limbs[end] % unit;
            first = Math.min(other.first, end);
            last = end;
            if (other.roundsUp(end, unit)) {
                countUp(end, unit);
            }
            trim();
        }

        private boolean roundsUp(int end, long unit) {
            int side = sideOfHalf(end, unit);
            return side > 0 || side == 0 && limb(end) / unit % 2 == 1;
        }

        /** What stands behind the unit against its half: below 0, 0 or above 0. */
        private int sideOfHalf(int end, long unit) {
            // behind a limb's last digit the half stands in the next limb
            int at = unit == 1 ? end + 1 : end;
            long full = unit == 1 ? LIMB : unit;
            int side = Long.compare(limb(at) % full, full / 2);
            return side == 0 && last > at ? 1 : side;
        }

        private void countUp(int end, long unit) {
            limbs[end] += unit;
            for (int i = end; i > 0 && limbs[i] >= LIMB; i--) {
                limbs[i] -= LIMB;
                limbs[i - 1]++;
                first = Math.min(first, i - 1);
            }
        }

        int comparedTo(Decimal other) {
            int end = Math.max(last, other.last);
            for (int i = Math.min(first, other.first); i <= end; i++) {
                if (limbs[i] != other.limbs[i]) {
                    return limbs[i] < other.limbs[i] ? -1 : 1;
                }
            }
            return 0;
        }

        private void trim() {
            while (first <= last && limbs[first] == 0) {
                first++;
            }
            while (first <= last && limbs[last] == 0) {
                last--;
            }
        }

        private long limb(int at) {
            return at >= 0 && at < LIMBS ? limbs[at] : 0;
        }

        private static int limbOf(int place) {
            return UNITS - Math.floorDiv(place, LIMB_DIGITS);
        }

        private static long unitOf(int place) {
            return TENS[Math.floorMod(place, LIMB_DIGITS)];
        }
    }
}
