import java.math.BigDecimal;
import java.util.NoSuchElementException;

/** What the tests share: calls with the answer that is due, and a count of the wrong ones. */
final class Checks {
    private static final int CALLS_PER_OBJECT = 512;

    private int wrong = 0;
    private int done = 0;
    private String sentence = "";
    private int doneBefore = 0;

    /** A call of the face; it answers a long. */
    interface Call {
        long answer();
    }

    /** The document's words that the answers looked at from here on are due by. */
    void sentence(String words) {
        endSentence();
        sentence = words;
    }

    /** A sentence that no answer was looked at for is not tested. */
    private void endSentence() {
        if (!sentence.isEmpty() && done == doneBefore) {
            wrong++;
            System.out.println("no answer looked at for: " + sentence);
        }
        doneBefore = done;
    }

    void due(String call, long want, Call got) {
        String answer = outcome(got);
        same(call, Long.toString(want), answer);
    }

    void dueBad(String call, Call got) {
        same(call, "throws.IllegalArgumentException", outcome(got));
    }

    void dueRefused(String call, Call got) {
        same(call, "throws.IllegalStateException", outcome(got));
    }

    void dueMissing(String call, Call got) {
        same(call, "throws.NoSuchElementException", outcome(got));
    }

    void same(String what, String want, String got) {
        done++;
        if (!want.equals(got)) {
            wrong++;
            String by = sentence.isEmpty() ? "" : " by: " + sentence;
            System.out.println(what + " answered " + got + ", due is " + want + by);
        }
    }

    /** TEXT is this, and ends there, by letter and by the length that add answers. */
    void dueText(String when, String want, DoubleText x) {
        same("text " + when, want, textOf(x));
        if (want.length() < 400) {
            due("add " + when, want.length() + 1, () -> x.add('!'));
        } else {
            dueRefused("add " + when, () -> x.add('!'));
        }
    }

    void finish() {
        endSentence();
        System.out.println(done + " answers looked at, " + wrong + " wrong");
        if (wrong != 0 || done == 0) {
            System.exit(1);
        }
    }

    static String outcome(Call call) {
        try {
            return Long.toString(call.answer());
        } catch (RuntimeException e) {
            return "throws." + e.getClass().getSimpleName();
        }
    }

    /** An object that holds the text, with room for a few calls more. */
    static DoubleText holding(String text) {
        DoubleText x = new DoubleText();
        append(x, text);
        return x;
    }

    /** As long as a print can be: 341 bytes. */
    static String longestPrint() {
        return new BigDecimal(-Double.MAX_VALUE).toPlainString() + "." + "0".repeat(30);
    }

    /** The longest print and the text behind it, in few calls: so a full text can be told letter by letter. */
    static DoubleText longHolding(String behind) {
        DoubleText x = new DoubleText();
        x.print(Double.doubleToRawLongBits(-Double.MAX_VALUE), 30);
        append(x, behind);
        return x;
    }

    static void append(DoubleText x, String text) {
        for (int i = 0; i < text.length(); i++) {
            x.add(text.charAt(i));
        }
    }

    /** All of TEXT, by letter alone. */
    static String textOf(DoubleText x) {
        StringBuilder text = new StringBuilder();
        for (int i = 0; i < CALLS_PER_OBJECT; i++) {
            try {
                text.append((char) x.letter(i));
            } catch (NoSuchElementException e) {
                break;
            }
        }
        return text.toString();
    }

    /** Many unlike longs, the same ones every time. */
    static long scrambled(long i) {
        long z = i * 0x9E3779B97F4A7C15L;
        z = (z ^ (z >>> 30)) * 0xBF58476D1CE4E5B9L;
        z = (z ^ (z >>> 27)) * 0x94D049BB133111EBL;
        return z ^ (z >>> 31);
    }
}
