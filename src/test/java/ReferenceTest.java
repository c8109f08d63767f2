import java.util.Random;

/** Many towns, small and large, told to the program and to the reference: all answers must be the same. */
public final class ReferenceTest {
    /** What remains of an object's 512 calls, after the voters, projects and budget, and ahead of the runs. */
    private static final int MOST_APPROVALS = 400;
    private final Random random;
    private final Desk x = new Desk();
    private final Reference y = new Reference();
    private final Check all;
    private final String name;

    private ReferenceTest(Check all, int seed) {
        this.all = all;
        random = new Random(seed);
        name = "town " + seed + ": ";
    }

    public static void main(String[] args) {
        Check all = new Check();
        for (int seed = 1; seed <= 500; seed++) {
            new ReferenceTest(all, seed).small();
        }
        for (int seed = 2001; seed <= 2040; seed++) {
            new ReferenceTest(all, seed).large();
        }
        new ReferenceTest(all, 3001).full();
        new ReferenceTest(all, 3002).longest();
        all.end();
    }

    private int below(int bound) {
        return random.nextInt(bound);
    }

    /** Few voters and projects, numbers that often tie, and calls in any order, wrong ones too. */
    private void small() {
        int voters = 1 + below(6);
        int projects = 1 + below(6);
        int mostCost = 1 + below(12);
        for (int call = 0; call < 60; call++) {
            int v = below(voters);
            int p = below(projects);
            switch (below(16)) {
                case 0, 1, 2 -> project(p, 1 + below(mostCost));
                case 3 -> all.due(name + "drop", x.drop(p), y.drop(p));
                case 4 -> budget(1 + below(40));
                case 5, 6, 7 -> all.due(name + "voter", x.voter(v), y.voter(v));
                case 8 -> all.due(name + "strike", x.strike(v), y.strike(v));
                case 9, 10, 11, 12 -> approve(v, p, below(5) != 0);
                case 13 -> all.due(name + "run", x.run(), y.run());
                case 14 -> raise(1 + below(3), below(12));
                default -> wrongCalls();
            }
            if (call % 15 == 14) {
                compare();
            }
        }
    }

    private int beyond(int least, int most) {
        return below(2) == 0 ? least - 1 - below(3) : most + 1 + below(3);
    }

    private void wrongCalls() {
        project(beyond(0, 15), 1);
        project(below(16), beyond(1, 1_000_000));
        budget(beyond(1, 10_000_000));
        int v = beyond(0, 47);
        all.due(name + "voter", x.voter(v), y.voter(v));
        all.due(name + "strike", x.strike(v), y.strike(v));
        approve(v, 0, true);
        approve(below(6), beyond(0, 15), true);
        raise(beyond(1, 100_000), 3);
        raise(1, beyond(0, 100));
    }

    /** Many voters and projects, so that the fractions become long. */
    private void large() {
        int voters = 20 + below(29);
        int chance = 1 + below(4);
        int mostCost = 1 + below(below(2) == 0 ? 1_000_000 : 50_000);
        budget(1 + below(10_000_000));
        for (int v = 0; v < voters; v++) {
            all.due(name + "voter", x.voter(v), y.voter(v));
        }
        int approvals = 0;
        for (int p = 0; p < 16; p++) {
            project(p, 1 + below(mostCost));
            for (int v = 0; v < voters && approvals < MOST_APPROVALS; v++) {
                if (below(5) < chance) {
                    approve(v, p, true);
                    approvals++;
                }
            }
        }
        raise(1 + below(100_000), below(6));
        compare();
        all.due(name + "strike", x.strike(3), y.strike(3));
        budget(1 + below(1_000_000));
        all.due(name + "run", x.run(), y.run());
        compare();
    }

    /** All voters and all projects, and purses as full as a raise makes them. */
    private void full() {
        Towns.found(x, 10_000_000, 48);
        Towns.found(y, 10_000_000, 48);
        for (int p = 0; p < 16; p++) {
            project(p, 600_000 + p);
            for (int v = p; v < p + 27; v++) {
                approve(v % 48, p, true);
            }
        }
        raise(100_000, 100);
        compare();
    }

    private void longest() {
        Towns.longest(x);
        Towns.longest(y);
        compare();
    }

    private void project(int p, int cost) {
        all.due(name + "project", x.project(p, cost), y.project(p, cost));
    }

    private void budget(int amount) {
        all.due(name + "budget", x.budget(amount), y.budget(amount));
    }

    private void approve(int v, int p, boolean yes) {
        all.due(name + "approve", x.approve(v, p, yes), y.approve(v, p, yes));
    }

    private void raise(int step, int most) {
        all.due(name + "raise", x.raise(step, most), y.raise(step, most));
    }

    private void compare() {
        all.same(name + "picture", x.picture(), y.picture());
    }
}
