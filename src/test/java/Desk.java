import java.math.BigInteger;
import java.util.ArrayList;
import java.util.List;
import java.util.function.Consumer;

/**
 * A SharesDesk for tests.
 *
 * The document says nothing of an object after 512 calls, so a test must not ask more of one. When they are used up
 * a new object is told all that was entered, and answers further.
 */
final class Desk implements Answers {
    static final int MOST_CALLS = 512;
    /** Four words hold the longest number of a run of 512 calls; the fifth must be 0. */
    private static final int WORDS = 5;

    interface Words {
        int at(int part, int word);
    }

    private final List<Consumer<SharesDesk>> entered = new ArrayList<>();
    private SharesDesk object = new SharesDesk();
    private int calls;

    private SharesDesk next() {
        if (calls >= MOST_CALLS) {
            if (entered.size() >= MOST_CALLS) {
                throw new IllegalStateException("the test enters more than one object can take");
            }
            object = new SharesDesk();
            for (Consumer<SharesDesk> call : entered) {
                call.accept(object);
            }
            calls = entered.size();
        }
        calls++;
        return object;
    }

    /** Another object that was told the same. */
    Desk again() {
        Desk other = new Desk();
        for (Consumer<SharesDesk> call : entered) {
            call.accept(other.next());
            other.entered.add(call);
        }
        return other;
    }

    public boolean project(int p, int cost) {
        boolean answer = next().project(p, cost);
        entered.add(x -> x.project(p, cost));
        return answer;
    }

    public boolean drop(int p) {
        boolean answer = next().drop(p);
        entered.add(x -> x.drop(p));
        return answer;
    }

    public boolean budget(int amount) {
        boolean answer = next().budget(amount);
        entered.add(x -> x.budget(amount));
        return answer;
    }

    public boolean voter(int v) {
        boolean answer = next().voter(v);
        entered.add(x -> x.voter(v));
        return answer;
    }

    public boolean strike(int v) {
        boolean answer = next().strike(v);
        entered.add(x -> x.strike(v));
        return answer;
    }

    public boolean approve(int v, int p, boolean yes) {
        boolean answer = next().approve(v, p, yes);
        entered.add(x -> x.approve(v, p, yes));
        return answer;
    }

    public int run() {
        int answer = next().run();
        entered.add(SharesDesk::run);
        return answer;
    }

    public String raise(int step, int most) {
        String answer = raise(next(), step, most);
        entered.add(x -> raise(x, step, most));
        return answer;
    }

    private static String raise(SharesDesk x, int step, int most) {
        try {
            return String.valueOf(x.raise(step, most));
        } catch (RuntimeException e) {
            return "throws." + e.getClass().getSimpleName();
        }
    }

    public int chosen(int i) {
        return next().chosen(i);
    }

    public int spent() {
        return next().spent();
    }

    int purse(int v, int part, int word) {
        return next().purse(v, part, word);
    }

    int paid(int v, int p, int part, int word) {
        return next().paid(v, p, part, word);
    }

    int rate(int p, int part, int word) {
        return next().rate(p, part, word);
    }

    int missing(int p, int part, int word) {
        return next().missing(p, part, word);
    }

    int receipt(int v, int k) {
        return next().receipt(v, k);
    }

    public int served(int v) {
        return next().served(v);
    }

    public String passedOver(int m) {
        try {
            return String.valueOf(next().passedOver(m));
        } catch (RuntimeException e) {
            return "throws." + e.getClass().getSimpleName();
        }
    }

    public String purse(int v) {
        return fraction((part, word) -> purse(v, part, word));
    }

    public String paid(int v, int p) {
        return fraction((part, word) -> paid(v, p, part, word));
    }

    public String rate(int p) {
        return fraction((part, word) -> rate(p, part, word));
    }

    public String missing(int p) {
        return fraction((part, word) -> missing(p, part, word));
    }

    public String receipt(int v) {
        StringBuilder text = new StringBuilder();
        for (int k = 0; k < 5000; k++) {
            int c = receipt(v, k);
            if (c == -1) {
                break;
            }
            text.append((char) c);
        }
        return text.toString();
    }

    private static String fraction(Words words) {
        return number(words, 0) + "/" + number(words, 1);
    }

    private static BigInteger number(Words words, int part) {
        BigInteger sum = BigInteger.ZERO;
        for (int word = 0; word < WORDS; word++) {
            sum = sum.add(BigInteger.valueOf(words.at(part, word) & 0xFFFFFFFFL).shiftLeft(32 * word));
        }
        return sum;
    }

    /**
     * All that can be found out: the RESULT, then the next one, then the one with all that wasn't there entered. So
     * approvals of projects that aren't there show too.
     */
    String whole() {
        Desk x = again();
        StringBuilder text = new StringBuilder(x.picture());
        text.append("run ").append(x.run()).append('\n').append(x.picture());
        for (int v = 0; v < 48; v++) {
            text.append("voter ").append(v).append(": ").append(x.voter(v)).append('\n');
        }
        for (int p = 0; p < 16; p++) {
            text.append("drop ").append(p).append(": ").append(x.drop(p)).append('\n');
            x.project(p, 1);
        }
        x.budget(1_000);
        text.append("run ").append(x.run()).append('\n').append(x.picture());
        return text.toString();
    }
}
