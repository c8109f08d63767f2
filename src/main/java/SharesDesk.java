import java.util.Arrays;

/**
 * A town's budget, spent by its voters in equal shares.
 *
 * All rows are made by the constructor and used again: no call but a throwing one makes an object.
 */
public final class SharesDesk {
    private static final int PROJECTS = 16;
    private static final int VOTERS = 48;
    private static final int MOST_COST = 1_000_000;
    private static final int MOST_BUDGET = 10_000_000;
    private static final int MOST_STEP = 100_000;
    private static final int MOST_STEPS = 100;
    private static final int MOST_IN_GROUP = 4;
    /** How many sets of 4 there are among 16: no smaller size has more. */
    private static final int MOST_GROUPS = 1820;
    private static final int NONE = -1;

    private final Town town;
    /** The town as the RESULT found it. */
    private final Town past;
    private final Ratio ratio;
    private final Natural lack;
    private final Slip slip;
    private Phase result;
    private Phase trial;

    public SharesDesk() {
        town = new Town();
        past = new Town();
        ratio = new Ratio();
        lack = new Natural();
        slip = new Slip();
        result = new Phase(past);
        trial = new Phase(past);
    }

    public boolean project(int p, int cost) {
        if (!isProjectNumber(p) || cost < 1 || cost > MOST_COST) {
            return false;
        }
        town.costs[p] = cost;
        return true;
    }

    public boolean drop(int p) {
        if (!town.hasProject(p)) {
            return false;
        }
        town.costs[p] = 0;
        return true;
    }

    public boolean budget(int amount) {
        if (amount < 1 || amount > MOST_BUDGET) {
            return false;
        }
        town.budget = amount;
        return true;
    }

    public boolean voter(int v) {
        if (!isVoterNumber(v) || town.hasVoter(v)) {
            return false;
        }
        town.voters |= 1L << v;
        town.approvals[v] = 0;
        return true;
    }

    public boolean strike(int v) {
        if (!town.hasVoter(v)) {
            return false;
        }
        town.voters &= ~(1L << v);
        return true;
    }

    public boolean approve(int v, int p, boolean yes) {
        if (!town.hasVoter(v) || !isProjectNumber(p)) {
            return false;
        }
        int bit = 1 << p;
        town.approvals[v] = yes ? town.approvals[v] | bit : town.approvals[v] & ~bit;
        return true;
    }

    public int run() {
        keepTown();
        result.play(0);
        return result.picked;
    }

    public int raise(int step, int most) throws IllegalArgumentException {
        if (step < 1 || step > MOST_STEP || most < 0 || most > MOST_STEPS) {
            throw new IllegalArgumentException("step is not 1 .. 100000, or most not 0 .. 100");
        }
        keepTown();
        if (past.costOf(past.allProjects()) <= past.budget) {
            // No raise can overspend here, so the phases in between needn't be played.
            result.play(most * step);
            return most;
        }
        result.play(0);
        for (int steps = 0; steps < most; steps++) {
            trial.play((steps + 1) * step);
            if (trial.overspends()) {
                return steps;
            }
            swapPhases();
        }
        return most;
    }

    public int chosen(int i) {
        return i >= 0 && i < result.picked ? result.picks[i] : NONE;
    }

    public int spent() {
        return result.cost;
    }

    public int purse(int v, int part, int word) {
        if (!past.hasVoter(v)) {
            return 0;
        }
        ratio.take(result.purses[v], result.base);
        return ratio.wordOf(part, word);
    }

    public int paid(int v, int p, int part, int word) {
        if (!past.hasVoter(v)) {
            return 0;
        }
        int round = result.roundOf(p);
        Natural sum = result.payment(v, round);
        if (sum == null) {
            ratio.takeZero();
        } else {
            ratio.take(sum, result.bases[round]);
        }
        return ratio.wordOf(part, word);
    }

    public int rate(int p, int part, int word) {
        int round = result.roundOf(p);
        if (round == NONE) {
            return 0;
        }
        ratio.take(result.rates[round], result.bases[round]);
        return ratio.wordOf(part, word);
    }

    public int missing(int p, int part, int word) {
        if (!past.hasProject(p) || result.roundOf(p) != NONE) {
            return 0;
        }
        result.measureLack(p, lack);
        ratio.take(lack, result.base);
        return ratio.wordOf(part, word);
    }

    public int served(int v) {
        return past.hasVoter(v) ? result.countServed(v) : 0;
    }

    public int passedOver(int m) throws IllegalArgumentException {
        if (m < 1 || m > MOST_IN_GROUP) {
            throw new IllegalArgumentException("m is not 1 .. 4");
        }
        int voters = past.countVoters();
        if (voters == 0) {
            return 0;
        }
        int there = past.allProjects();
        int set = (1 << m) - 1;
        for (int i = 0; i < MOST_GROUPS && set < 1 << PROJECTS; i++) {
            if ((set & ~there) == 0 && deservesMore(set, m, voters)) {
                return set;
            }
            set = nextOfSameSize(set);
        }
        return 0;
    }

    public int receipt(int v, int k) {
        if (!past.hasVoter(v)) {
            return NONE;
        }
        if (slip.owner != v) {
            writeSlip(v);
        }
        return slip.charOr(k, NONE);
    }

    private static boolean isProjectNumber(int p) {
        return p >= 0 && p < PROJECTS;
    }

    private static boolean isVoterNumber(int v) {
        return v >= 0 && v < VOTERS;
    }

    private void keepTown() {
        past.copy(town);
        slip.clear(NONE);
    }

    private void swapPhases() {
        Phase other = result;
        result = trial;
        trial = other;
    }

    private boolean deservesMore(int set, int m, int voters) {
        int group = 0;
        for (int v = 0; v < VOTERS; v++) {
            if (past.hasVoter(v) && (past.approvals[v] & set) == set && result.countServed(v) < m) {
                group++;
            }
        }
        return (long) group * past.budget >= (long) voters * past.costOf(set);
    }

    /** The next greater number with as many bits: the lowest run of ones moves one up, its rest falls to the end. */
    private static int nextOfSameSize(int set) {
        int raised = set + (set & -set);
        int fallen = (set ^ raised) >>> (2 + Integer.numberOfTrailingZeros(set));
        return raised | fallen;
    }

    private void writeSlip(int v) {
        slip.clear(v);
        for (int round = 0; round < result.picked; round++) {
            Natural sum = result.payment(v, round);
            if (sum != null) {
                ratio.take(sum, result.bases[round]);
                slip.putProject(result.picks[round]);
                slip.putRatio(ratio);
                slip.put(';');
            }
        }
        ratio.take(result.purses[v], result.base);
        slip.put('=');
        slip.putRatio(ratio);
        slip.put('.');
    }

    /** What is entered: projects, voters, approvals and the budget. */
    private static final class Town {
        /** A project that isn't there costs 0. */
        final int[] costs = new int[PROJECTS];
        /** The set of those that are there, voter v its bit v. */
        long voters;
        /** For each voter a set of projects, project p its bit p. */
        final int[] approvals = new int[VOTERS];
        int budget = 1;

        boolean hasProject(int p) {
            return isProjectNumber(p) && costs[p] > 0;
        }

        boolean hasVoter(int v) {
            return isVoterNumber(v) && (voters >> v & 1) != 0;
        }

        boolean approves(int v, int p) {
            return (approvals[v] >> p & 1) != 0;
        }

        int countVoters() {
            return Long.bitCount(voters);
        }

        int allProjects() {
            int set = 0;
            for (int p = 0; p < PROJECTS; p++) {
                if (costs[p] > 0) {
                    set |= 1 << p;
                }
            }
            return set;
        }

        int costOf(int set) {
            int sum = 0;
            for (int p = 0; p < PROJECTS; p++) {
                if ((set >> p & 1) != 0) {
                    sum += costs[p];
                }
            }
            return sum;
        }

        void copy(Town other) {
            System.arraycopy(other.costs, 0, costs, 0, PROJECTS);
            System.arraycopy(other.approvals, 0, approvals, 0, VOTERS);
            voters = other.voters;
            budget = other.budget;
        }
    }

    /**
     * The first phase, and what came of it.
     *
     * All purses are kept over one base, which a round multiplies by the number of those who pay its rate in full.
     */
    private static final class Phase {
        final Town town;
        final Natural base = new Natural();
        final Natural[] purses = new Natural[VOTERS];
        /** A purse is emptied once at most: only that payment can be another than the rate. */
        final Natural[] lastPays = new Natural[VOTERS];
        final int[] emptiedIn = new int[VOTERS];
        /** The voters whose purse isn't empty, the poorest first. */
        final int[] payers = new int[VOTERS];
        int payerCount;
        final int[] picks = new int[PROJECTS];
        int picked;
        int pickedSet;
        int cost;
        /** The rate of each round, over the base as it was when that round was paid. */
        final Natural[] rates = new Natural[PROJECTS];
        final Natural[] bases = new Natural[PROJECTS];
        /** Purses only shrink, so a project that can't be afforded once is never looked at again. */
        int open;
        private Share best = new Share();
        private Share tried = new Share();

        Phase(Town town) {
            this.town = town;
            for (int v = 0; v < VOTERS; v++) {
                purses[v] = new Natural();
                lastPays[v] = new Natural();
            }
            for (int round = 0; round < PROJECTS; round++) {
                rates[round] = new Natural();
                bases[round] = new Natural();
            }
        }

        /** Ends early once it overspends: raise() drops such a phase, and without a raise there is none. */
        void play(int raise) {
            fillPurses(raise);
            picked = 0;
            pickedSet = 0;
            cost = 0;
            open = town.allProjects();
            for (int round = 0; round < PROJECTS && !overspends(); round++) {
                int p = findCheapest();
                if (p == NONE) {
                    break;
                }
                pay(p, round);
                sortPayers();
            }
        }

        boolean overspends() {
            return cost > town.budget;
        }

        int roundOf(int p) {
            for (int round = 0; round < picked; round++) {
                if (picks[round] == p) {
                    return round;
                }
            }
            return NONE;
        }

        /** What a voter paid in a round, over that round's base; null when it paid nothing. */
        Natural payment(int v, int round) {
            if (round == NONE || round > emptiedIn[v] || !town.approves(v, picks[round])) {
                return null;
            }
            return round == emptiedIn[v] ? lastPays[v] : rates[round];
        }

        int countServed(int v) {
            return Integer.bitCount(town.approvals[v] & pickedSet);
        }

        /** For a project that wasn't chosen: its supporters have less than it costs. */
        void measureLack(int p, Natural lack) {
            lack.copy(base);
            lack.times(town.costs[p]);
            for (int i = 0; i < payerCount; i++) {
                if (town.approves(payers[i], p)) {
                    lack.minus(purses[payers[i]]);
                }
            }
        }

        private void fillPurses(int raise) {
            int voters = town.countVoters();
            base.set(Math.max(voters, 1));
            payerCount = 0;
            for (int v = 0; v < VOTERS; v++) {
                emptiedIn[v] = PROJECTS;
                if (town.hasVoter(v)) {
                    purses[v].set(town.budget + voters * raise);
                    payers[payerCount++] = v;
                }
            }
        }

        /** Leaves the share of the project that it finds in best. */
        private int findCheapest() {
            int found = NONE;
            for (int p = 0; p < PROJECTS; p++) {
                if ((open >> p & 1) == 0) {
                    continue;
                }
                if (!findShare(p)) {
                    open &= ~(1 << p);
                } else if (found == NONE || isBetter(p, found)) {
                    found = p;
                    swapShares();
                }
            }
            return found;
        }

        /** Of two that are alike in rate and cost the first found, which has the lesser number, stays. */
        private boolean isBetter(int p, int found) {
            int order = tried.against(best);
            return order < 0 || order == 0 && town.costs[p] < town.costs[found];
        }

        private void swapShares() {
            Share other = best;
            best = tried;
            tried = other;
        }

        /** Lets the poorest give all they have, till the others can share the rest; false when that never comes. */
        private boolean findShare(int p) {
            tried.rest.copy(base);
            tried.rest.times(town.costs[p]);
            tried.payers = countPayers(p);
            for (int i = 0; i < payerCount; i++) {
                int v = payers[i];
                if (!town.approves(v, p)) {
                    continue;
                }
                if (tried.isWithin(purses[v])) {
                    return true;
                }
                tried.rest.minus(purses[v]);
                tried.payers--;
            }
            return false;
        }

        private int countPayers(int p) {
            int count = 0;
            for (int i = 0; i < payerCount; i++) {
                if (town.approves(payers[i], p)) {
                    count++;
                }
            }
            return count;
        }

        /** Over the base times best.payers, the rate is best.rest itself. */
        private void pay(int p, int round) {
            base.times(best.payers);
            bases[round].copy(base);
            rates[round].copy(best.rest);
            int left = 0;
            for (int i = 0; i < payerCount; i++) {
                int v = payers[i];
                purses[v].times(best.payers);
                if (town.approves(v, p)) {
                    charge(v, round);
                }
                if (!purses[v].isZero()) {
                    payers[left++] = v;
                }
            }
            payerCount = left;
            picks[round] = p;
            picked = round + 1;
            pickedSet |= 1 << p;
            cost += town.costs[p];
            open &= ~(1 << p);
        }

        private void charge(int v, int round) {
            if (purses[v].against(rates[round]) > 0) {
                purses[v].minus(rates[round]);
                return;
            }
            lastPays[v].copy(purses[v]);
            emptiedIn[v] = round;
            purses[v].set(0);
        }

        private void sortPayers() {
            for (int i = 1; i < payerCount; i++) {
                int v = payers[i];
                int at = i;
                while (at > 0 && purses[payers[at - 1]].against(purses[v]) > 0) {
                    payers[at] = payers[at - 1];
                    at--;
                }
                payers[at] = v;
            }
        }
    }

    /** A rate that is sought: rest / payers, over a base that is the same for all shares of a round. */
    private static final class Share {
        final Natural rest = new Natural();
        int payers;
        private final Natural left = new Natural();
        private final Natural right = new Natural();

        boolean isWithin(Natural purse) {
            left.copy(purse);
            left.times(payers);
            return left.against(rest) >= 0;
        }

        int against(Share other) {
            left.copy(rest);
            left.times(other.payers);
            right.copy(other.rest);
            right.times(payers);
            return left.against(right);
        }
    }

    /** A fraction in lowest terms. */
    private static final class Ratio {
        /** A base is a product of counts of voters, 1 .. 48: it has no other prime factors. */
        private static final int[] PRIMES = {2, 3, 5, 7, 11, 13, 17, 19, 23, 29, 31, 37, 41, 43, 47};

        final Natural top = new Natural();
        final Natural bottom = new Natural();

        void takeZero() {
            top.set(0);
            bottom.set(1);
        }

        void take(Natural numerator, Natural base) {
            if (numerator.isZero()) {
                takeZero();
                return;
            }
            top.copy(numerator);
            bottom.copy(base);
            for (int prime : PRIMES) {
                cancel(prime);
            }
        }

        int wordOf(int part, int word) {
            if (part == 0) {
                return top.wordAt(word);
            }
            return part == 1 ? bottom.wordAt(word) : 0;
        }

        private void cancel(int prime) {
            for (int i = 0; i < Natural.BITS; i++) {
                if (bottom.modulo(prime) != 0 || top.modulo(prime) != 0) {
                    return;
                }
                bottom.divide(prime);
                top.divide(prime);
            }
        }
    }

    /** The text of a receipt. */
    private static final class Slip {
        /** Two digits and a space, two numbers with a stroke between them, and a mark behind. */
        private static final int MOST_IN_ENTRY = 3 + 2 * Natural.DIGITS + 2;

        int owner = NONE;
        private final char[] text = new char[(PROJECTS + 1) * MOST_IN_ENTRY];
        private int length;
        private final char[] digits = new char[Natural.DIGITS];
        private final Natural rest = new Natural();

        void clear(int newOwner) {
            owner = newOwner;
            length = 0;
        }

        int charOr(int k, int other) {
            return k >= 0 && k < length ? text[k] : other;
        }

        void put(char c) {
            if (length < text.length) {
                text[length++] = c;
            }
        }

        void putProject(int p) {
            put((char) ('0' + p / 10));
            put((char) ('0' + p % 10));
            put(' ');
        }

        void putRatio(Ratio ratio) {
            putNatural(ratio.top);
            if (!ratio.bottom.isOne()) {
                put('/');
                putNatural(ratio.bottom);
            }
        }

        private void putNatural(Natural number) {
            rest.copy(number);
            int from = Natural.DIGITS;
            do {
                from--;
                digits[from] = (char) ('0' + rest.divide(10));
            } while (from > 0 && !rest.isZero());
            for (int i = from; i < Natural.DIGITS; i++) {
                put(digits[i]);
            }
        }
    }

    /**
     * A whole number, 0 or more, that changes in place.
     *
     * Four words hold all that comes up: a base is at most 48^17 (the voters, and the payers of 16 rounds), all
     * purses together at most 10,000,000 + 48 * 10,000,000, and the product of the two is less than 2^124. What is
     * compared before a round is paid is multiplied by 48 at most, but has one factor of 48 less in its base.
     */
    private static final class Natural {
        static final int WORDS = 4;
        static final int BITS = 32 * WORDS;
        /** 2^128 has 39 decimal digits. */
        static final int DIGITS = 39;
        private static final long MASK = 0xFFFFFFFFL;

        private final int[] words = new int[WORDS];

        void set(int value) {
            Arrays.fill(words, 0);
            words[0] = value;
        }

        void copy(Natural other) {
            System.arraycopy(other.words, 0, words, 0, WORDS);
        }

        int wordAt(int i) {
            return i >= 0 && i < WORDS ? words[i] : 0;
        }

        boolean isZero() {
            return (words[0] | words[1] | words[2] | words[3]) == 0;
        }

        boolean isOne() {
            return words[0] == 1 && (words[1] | words[2] | words[3]) == 0;
        }

        /** Less than 0, 0, or more, as this is less than the other, the same, or more. */
        int against(Natural other) {
            for (int i = WORDS - 1; i >= 0; i--) {
                if (words[i] != other.words[i]) {
                    return (words[i] & MASK) < (other.words[i] & MASK) ? -1 : 1;
                }
            }
            return 0;
        }

        void minus(Natural other) {
            long borrow = 0;
            for (int i = 0; i < WORDS; i++) {
                long difference = (words[i] & MASK) - (other.words[i] & MASK) + borrow;
                words[i] = (int) difference;
                borrow = difference >> 32;
            }
        }

        void times(int factor) {
            long carry = 0;
            for (int i = 0; i < WORDS; i++) {
                long product = (words[i] & MASK) * factor + carry;
                words[i] = (int) product;
                carry = product >>> 32;
            }
        }

        /** Divides in place; the answer is what remains. */
        int divide(int divisor) {
            if (divisor < 1) {
                return 0;
            }
            long remains = 0;
            for (int i = WORDS - 1; i >= 0; i--) {
                long part = remains << 32 | words[i] & MASK;
                words[i] = (int) (part / divisor);
                remains = part % divisor;
            }
            return (int) remains;
        }

        int modulo(int divisor) {
            if (divisor < 1) {
                return 0;
            }
            long remains = 0;
            for (int i = WORDS - 1; i >= 0; i--) {
                remains = (remains << 32 | words[i] & MASK) % divisor;
            }
            return (int) remains;
        }
    }
}
