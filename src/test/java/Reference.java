import java.math.BigInteger;
import java.util.ArrayList;
import java.util.List;
import java.util.TreeMap;
import java.util.TreeSet;

/** The document once more, word by word, over fractions of any length; slow and plain. */
final class Reference implements Answers {
    record Fraction(BigInteger top, BigInteger bottom) implements Comparable<Fraction> {
        static final Fraction ZERO = of(0);

        Fraction {
            BigInteger common = top.gcd(bottom);
            top = top.divide(common);
            bottom = bottom.divide(common);
        }

        static Fraction of(long whole) {
            return new Fraction(BigInteger.valueOf(whole), BigInteger.ONE);
        }

        Fraction plus(Fraction o) {
            return new Fraction(top.multiply(o.bottom).add(o.top.multiply(bottom)), bottom.multiply(o.bottom));
        }

        Fraction minus(Fraction o) {
            return new Fraction(top.multiply(o.bottom).subtract(o.top.multiply(bottom)), bottom.multiply(o.bottom));
        }

        Fraction over(long n) {
            return new Fraction(top, bottom.multiply(BigInteger.valueOf(n)));
        }

        Fraction min(Fraction o) {
            return compareTo(o) <= 0 ? this : o;
        }

        public int compareTo(Fraction o) {
            return top.multiply(o.bottom).compareTo(o.top.multiply(bottom));
        }

        String words() {
            return top + "/" + bottom;
        }

        String text() {
            return bottom.equals(BigInteger.ONE) ? top.toString() : words();
        }
    }

    static final class Outcome {
        final TreeMap<Integer, Integer> costs = new TreeMap<>();
        final TreeMap<Integer, TreeSet<Integer>> voters = new TreeMap<>();
        int budget = 1;
        final List<Integer> chosen = new ArrayList<>();
        final TreeMap<Integer, Fraction> rates = new TreeMap<>();
        final TreeMap<Integer, Fraction> purses = new TreeMap<>();
        final TreeMap<Integer, Fraction> payments = new TreeMap<>();

        int spent() {
            int sum = 0;
            for (int p : chosen) {
                sum += costs.get(p);
            }
            return sum;
        }
    }

    final TreeMap<Integer, Integer> costs = new TreeMap<>();
    final TreeMap<Integer, TreeSet<Integer>> voters = new TreeMap<>();
    int budget = 1;
    Outcome result = new Outcome();

    public boolean project(int p, int cost) {
        if (p < 0 || p > 15 || cost < 1 || cost > 1_000_000) {
            return false;
        }
        costs.put(p, cost);
        return true;
    }

    public boolean drop(int p) {
        return costs.remove(p) != null;
    }

    public boolean budget(int amount) {
        if (amount < 1 || amount > 10_000_000) {
            return false;
        }
        budget = amount;
        return true;
    }

    public boolean voter(int v) {
        if (v < 0 || v > 47 || voters.containsKey(v)) {
            return false;
        }
        voters.put(v, new TreeSet<>());
        return true;
    }

    public boolean strike(int v) {
        return voters.remove(v) != null;
    }

    public boolean approve(int v, int p, boolean yes) {
        if (!voters.containsKey(v) || p < 0 || p > 15) {
            return false;
        }
        if (yes) {
            voters.get(v).add(p);
        } else {
            voters.get(v).remove(p);
        }
        return true;
    }

    public int run() {
        result = phase(0);
        return result.chosen.size();
    }

    public String raise(int step, int most) {
        if (step < 1 || step > 100_000 || most < 0 || most > 100) {
            return "throws.IllegalArgumentException";
        }
        int steps = 0;
        Outcome last = phase(0);
        for (int i = 1; i <= most; i++) {
            Outcome next = phase(i * step);
            if (next.spent() > budget) {
                break;
            }
            last = next;
            steps = i;
        }
        result = last;
        return String.valueOf(steps);
    }

    private Outcome phase(int h) {
        Outcome o = new Outcome();
        o.costs.putAll(costs);
        o.budget = budget;
        for (int v : voters.keySet()) {
            o.voters.put(v, new TreeSet<>(voters.get(v)));
            o.purses.put(v, Fraction.of(budget).over(voters.size()).plus(Fraction.of(h)));
        }
        while (true) {
            int best = -1;
            Fraction least = null;
            for (int p : o.costs.keySet()) {
                Fraction rate = o.chosen.contains(p) ? null : rateOf(o, p);
                if (rate == null) {
                    continue;
                }
                int order = least == null ? -1 : rate.compareTo(least);
                if (order < 0 || order == 0 && o.costs.get(p) < o.costs.get(best)) {
                    best = p;
                    least = rate;
                }
            }
            if (best == -1) {
                return o;
            }
            o.chosen.add(best);
            o.rates.put(best, least);
            for (int v : supporters(o, best)) {
                Fraction pays = least.min(o.purses.get(v));
                o.payments.put(v * 16 + best, pays);
                o.purses.put(v, o.purses.get(v).minus(pays));
            }
        }
    }

    private static List<Integer> supporters(Outcome o, int p) {
        List<Integer> all = new ArrayList<>();
        for (int v : o.voters.keySet()) {
            if (o.voters.get(v).contains(p)) {
                all.add(v);
            }
        }
        return all;
    }

    private static Fraction together(Outcome o, int p) {
        Fraction sum = Fraction.ZERO;
        for (int v : supporters(o, p)) {
            sum = sum.plus(o.purses.get(v));
        }
        return sum;
    }

    /** The least of all rates that could be meant with which the cost is met; null when it can't be afforded. */
    private static Fraction rateOf(Outcome o, int p) {
        Fraction cost = Fraction.of(o.costs.get(p));
        if (together(o, p).compareTo(cost) < 0) {
            return null;
        }
        List<Integer> all = supporters(o, p);
        TreeSet<Fraction> tried = new TreeSet<>();
        Fraction least = null;
        for (int poor = -1; poor < all.size(); poor++) {
            // Those that have no more than one of them pay all they have.
            Fraction limit = poor < 0 ? Fraction.of(-1) : o.purses.get(all.get(poor));
            if (!tried.add(limit)) {
                continue;
            }
            Fraction rest = cost;
            int others = 0;
            for (int v : all) {
                if (o.purses.get(v).compareTo(limit) <= 0) {
                    rest = rest.minus(o.purses.get(v));
                } else {
                    others++;
                }
            }
            Fraction r = others == 0 ? limit : rest.over(others);
            Fraction given = Fraction.ZERO;
            for (int v : all) {
                given = given.plus(r.min(o.purses.get(v)));
            }
            if (given.compareTo(cost) == 0 && (least == null || r.compareTo(least) < 0)) {
                least = r;
            }
        }
        return least;
    }

    public int chosen(int i) {
        return i < 0 || i >= result.chosen.size() ? -1 : result.chosen.get(i);
    }

    public int spent() {
        return result.spent();
    }

    public String purse(int v) {
        return result.voters.containsKey(v) ? result.purses.get(v).words() : "0/0";
    }

    public String paid(int v, int p) {
        if (!result.voters.containsKey(v)) {
            return "0/0";
        }
        return p < 0 || p > 15 ? "0/1" : payment(v, p).words();
    }

    private Fraction payment(int v, int p) {
        return result.payments.getOrDefault(v * 16 + p, Fraction.ZERO);
    }

    public String rate(int p) {
        return result.rates.containsKey(p) ? result.rates.get(p).words() : "0/0";
    }

    public String missing(int p) {
        if (!result.costs.containsKey(p) || result.chosen.contains(p)) {
            return "0/0";
        }
        return Fraction.of(result.costs.get(p)).minus(together(result, p)).words();
    }

    public int served(int v) {
        int count = 0;
        for (int p : result.chosen) {
            if (result.voters.containsKey(v) && result.voters.get(v).contains(p)) {
                count++;
            }
        }
        return count;
    }

    public String passedOver(int m) {
        if (m < 1 || m > 4) {
            return "throws.IllegalArgumentException";
        }
        if (result.voters.isEmpty()) {
            return "0";
        }
        for (int set = 1; set < 1 << 16; set++) {
            if (Integer.bitCount(set) == m && isPassedOver(set, m)) {
                return String.valueOf(set);
            }
        }
        return "0";
    }

    private boolean isPassedOver(int set, int m) {
        TreeSet<Integer> projects = new TreeSet<>();
        long cost = 0;
        for (int p = 0; p < 16; p++) {
            if ((set >> p & 1) == 1) {
                if (!result.costs.containsKey(p)) {
                    return false;
                }
                projects.add(p);
                cost += result.costs.get(p);
            }
        }
        long group = 0;
        for (int v : result.voters.keySet()) {
            if (result.voters.get(v).containsAll(projects) && served(v) < m) {
                group++;
            }
        }
        return group * result.budget >= result.voters.size() * cost;
    }

    public String receipt(int v) {
        if (!result.voters.containsKey(v)) {
            return "";
        }
        StringBuilder text = new StringBuilder();
        for (int p : result.chosen) {
            if (payment(v, p).compareTo(Fraction.ZERO) > 0) {
                text.append(p < 10 ? "0" : "").append(p).append(' ').append(payment(v, p).text()).append(';');
            }
        }
        return text.append('=').append(result.purses.get(v).text()).append('.').toString();
    }
}
