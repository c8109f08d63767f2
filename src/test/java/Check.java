import java.math.BigInteger;

/** Counts answers that are not as due, and ends a test with exit code 1 if there was one. */
final class Check {
    private static final int MOST_PRINTED = 40;
    private int done;
    private int wrong;

    void due(String what, long got, long want) {
        done++;
        if (got != want) {
            tell(what + " answered " + got + ", due is " + want);
        }
    }

    void due(String what, boolean got, boolean want) {
        due(what, got ? 1L : 0L, want ? 1L : 0L);
    }

    void due(String what, String got, String want) {
        done++;
        if (!got.equals(want)) {
            tell(what + " answered " + got + ", due is " + want);
        }
    }

    private void tell(String line) {
        wrong++;
        if (wrong <= MOST_PRINTED) {
            System.out.println(line);
        }
    }

    void end() {
        String asDue = done + " answers are as due";
        System.out.println(wrong == 0 ? asDue : wrong + " of " + done + " answers are not as due");
        if (wrong != 0) {
            System.exit(1);
        }
    }

    interface Words {
        int at(int part, int word);
    }

    /** A fraction read by its words, as "numerator/denominator", with 0 for the words beyond. */
    static String fraction(Words words) {
        return number(words, 0) + "/" + number(words, 1);
    }

    private static BigInteger number(Words words, int part) {
        BigInteger sum = BigInteger.ZERO;
        for (int word = 0; word < 8; word++) {
            sum = sum.add(BigInteger.valueOf(words.at(part, word) & 0xFFFFFFFFL).shiftLeft(32 * word));
        }
        return sum;
    }

    static String purse(SharesDesk x, int v) {
        return fraction((part, word) -> x.purse(v, part, word));
    }

    static String paid(SharesDesk x, int v, int p) {
        return fraction((part, word) -> x.paid(v, p, part, word));
    }

    static String rate(SharesDesk x, int p) {
        return fraction((part, word) -> x.rate(p, part, word));
    }

    static String missing(SharesDesk x, int p) {
        return fraction((part, word) -> x.missing(p, part, word));
    }

    /** The whole text, read up to the first character that isn't there. */
    static String receipt(SharesDesk x, int v) {
        StringBuilder text = new StringBuilder();
        for (int k = 0; k < 5000; k++) {
            int c = x.receipt(v, k);
            if (c == -1) {
                break;
            }
            text.append((char) c);
        }
        return text.toString();
    }

    static String raise(SharesDesk x, int step, int most) {
        try {
            return String.valueOf(x.raise(step, most));
        } catch (IllegalArgumentException e) {
            return "throws.IllegalArgumentException";
        }
    }

    static String passedOver(SharesDesk x, int m) {
        try {
            return String.valueOf(x.passedOver(m));
        } catch (IllegalArgumentException e) {
            return "throws.IllegalArgumentException";
        }
    }
}
