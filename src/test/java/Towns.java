/** Towns that several tests use. */
final class Towns {
    /** Counts of voters that have no factor in common, nor with 47. */
    static final int[] COUNTS = {43, 41, 37, 31, 29, 23, 19, 17, 13, 11, 7, 5, 3, 32, 27, 25};
    /** In the longest town: the voters that projects 10 .. 15 empty, and how many others pay those projects' rate. */
    private static final int[] EMPTIED = {0, 11, 13, 17, 19, 23};
    private static final int[] PAYERS = {29, 29, 29, 29, 23, 19};

    private Towns() {
    }

    static Desk town(int budget, int voters) {
        Desk x = new Desk();
        found(x, budget, voters);
        return x;
    }

    static void found(Answers x, int budget, int voters) {
        x.budget(budget);
        for (int v = 0; v < voters; v++) {
            x.voter(v);
        }
    }

    static void want(Answers x, int p, int cost, int... voters) {
        x.project(p, cost);
        for (int v : voters) {
            x.approve(v, p, true);
        }
    }

    /** Wanted by the first voters, so many of them. */
    static void wantFirst(Answers x, int p, int cost, int voters) {
        x.project(p, cost);
        for (int v = 0; v < voters; v++) {
            x.approve(v, p, true);
        }
    }

    /** Purses of 10; 0 and 1 empty theirs for projects 0 and 1, so that 2 is paid by voter 3 alone. */
    static Desk emptied() {
        Desk x = town(40, 4);
        want(x, 0, 10, 0, 1);
        want(x, 1, 10, 0, 1);
        want(x, 2, 10, 0, 3);
        want(x, 3, 25, 1, 2);
        x.run();
        return x;
    }

    /** Purses of 10; 0 and 1 pay 5 for project 0, then all of the rest for 1, and the others 7. */
    static Desk uneven() {
        Desk x = town(40, 4);
        want(x, 0, 10, 0, 1);
        want(x, 1, 24, 0, 1, 2, 3);
        want(x, 12, 13, 0, 2);
        x.run();
        return x;
    }

    /**
     * The RESULT of uneven(), and a town that is another now: voters 0, 1, 2, 47, projects 0, 1, 12. Voter 3 was
     * struck, project 15 dropped; voter 2 approves of 15 still, and 47 of 7, which was never there.
     */
    static Desk busy() {
        Desk x = uneven();
        want(x, 15, 3, 2);
        x.drop(15);
        x.budget(33);
        x.strike(3);
        x.voter(47);
        want(x, 1, 20, 47);
        x.approve(47, 7, true);
        x.project(12, 5);
        x.approve(0, 0, false);
        return x;
    }

    /** Each project costs 1 and is wanted by so many of the first voters; voter 0 pays a part of each. */
    static Desk primes() {
        Desk x = town(10_000_000, 47);
        for (int p = 0; p < COUNTS.length; p++) {
            wantFirst(x, p, 1, COUNTS[p]);
        }
        x.run();
        return x;
    }

    /**
     * The longest numbers that were found for 512 calls. The first ten projects leave some voters with little; each
     * of the last six empties one of them, so that the rate takes on the denominator of that one's purse.
     */
    static void longest(Answers x) {
        found(x, 10_000_000, 47);
        for (int p = 0; p < 10; p++) {
            wantFirst(x, p, COUNTS[p] * (19_359 + 5 * p) + 1, COUNTS[p]);
        }
        for (int i = 0; i < EMPTIED.length; i++) {
            x.project(10 + i, PAYERS[i] * (19_539 + 80 * i) + 18_600);
            approveLate(x, i);
        }
        x.run();
    }

    private static void approveLate(Answers x, int i) {
        int approving = 0;
        for (int j = i; j < EMPTIED.length; j++) {
            x.approve(EMPTIED[j], 10 + i, true);
            approving++;
        }
        for (int v = 46; v >= 0 && approving <= PAYERS[i]; v--) {
            if (!isEmptied(v)) {
                x.approve(v, 10 + i, true);
                approving++;
            }
        }
    }

    private static boolean isEmptied(int v) {
        for (int one : EMPTIED) {
            if (one == v) {
                return true;
            }
        }
        return false;
    }
}
