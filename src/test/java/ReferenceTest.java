import java.util.Random;

/** Many towns, small and large, told to the program and to the reference: all answers must be the same. */
public final class ReferenceTest {
    private final Random random;
    private final SharesDesk x = new SharesDesk();
    private final Reference y = new Reference();
    private final String name;

    private ReferenceTest(int seed) {
        random = new Random(seed);
        name = "town " + seed + ": ";
    }

    public static void main(String[] args) {
        Check all = new Check();
        for (int seed = 1; seed <= 600; seed++) {
            new ReferenceTest(seed).small(all);
        }
        for (int seed = 2001; seed <= 2060; seed++) {
            new ReferenceTest(seed).large(all);
        }
        new ReferenceTest(3001).largest(all);
        all.end();
    }

    private int below(int bound) {
        return random.nextInt(bound);
    }

    /** Few voters and projects, numbers that often tie, and calls in any order, wrong ones too. */
    private void small(Check all) {
        int voters = 1 + below(6);
        int projects = 1 + below(6);
        int mostCost = 1 + below(12);
        for (int call = 0; call < 60; call++) {
            int v = below(voters);
            int p = below(projects);
            switch (below(16)) {
                case 0, 1, 2 -> project(all, p, 1 + below(mostCost));
                case 3 -> all.due(name + "drop", x.drop(p), y.drop(p));
                case 4 -> budget(all, 1 + below(40));
                case 5, 6, 7 -> all.due(name + "voter", x.voter(v), y.voter(v));
                case 8 -> all.due(name + "strike", x.strike(v), y.strike(v));
                case 9, 10, 11, 12 -> approve(all, v, p, below(5) != 0);
                case 13 -> all.due(name + "run", x.run(), y.run());
                case 14 -> raise(all, 1 + below(3), below(12));
                default -> wrongCall(all);
            }
            if (call % 10 == 9) {
                compare(all);
            }
        }
    }

    private void wrongCall(Check all) {
        project(all, below(2) == 0 ? -1 - below(3) : 16 + below(3), 1);
        project(all, below(16), below(2) == 0 ? -below(3) : 1_000_001 + below(3));
        budget(all, below(2) == 0 ? -below(3) : 10_000_001 + below(3));
        int v = below(2) == 0 ? -1 - below(3) : 48 + below(3);
        all.due(name + "voter", x.voter(v), y.voter(v));
        all.due(name + "strike", x.strike(v), y.strike(v));
        approve(all, v, 0, true);
        approve(all, below(6), below(2) == 0 ? -1 - below(3) : 16 + below(3), true);
        raise(all, below(2) == 0 ? -below(2) : 100_001, 3);
        raise(all, 1, below(2) == 0 ? -1 : 101);
    }

    /** Many voters and projects, so that the fractions become long. */
    private void large(Check all) {
        int voters = 20 + below(29);
        int chance = 1 + below(4);
        int mostCost = 1 + below(below(2) == 0 ? 1_000_000 : 50_000);
        budget(all, 1 + below(10_000_000));
        for (int v = 0; v < voters; v++) {
            all.due(name + "voter", x.voter(v), y.voter(v));
        }
        for (int p = 0; p < 16; p++) {
            project(all, p, 1 + below(mostCost));
            for (int v = 0; v < voters; v++) {
                if (below(5) < chance) {
                    approve(all, v, p, true);
                }
            }
        }
        all.due(name + "run", x.run(), y.run());
        compare(all);
        raise(all, 1 + below(100_000), below(6));
        compare(all);
        all.due(name + "strike", x.strike(3), y.strike(3));
        budget(all, 1 + below(1_000_000));
        compare(all);
        all.due(name + "run", x.run(), y.run());
        compare(all);
    }

    /** The longest numbers that can come up: all voters, purses as full as can be, all paying in each round. */
    private void largest(Check all) {
        budget(all, 10_000_000);
        for (int v = 0; v < 48; v++) {
            all.due(name + "voter", x.voter(v), y.voter(v));
        }
        for (int p = 0; p < 16; p++) {
            project(all, p, 600_000 + p);
            for (int v = 0; v < 48; v++) {
                approve(all, v, p, true);
            }
        }
        raise(all, 100_000, 100);
        compare(all);
        project(all, 15, 1_000_000);
        for (int v = 1; v < 48; v++) {
            approve(all, v, 15, false);
        }
        raise(all, 1, 100);
        compare(all);
    }

    private void project(Check all, int p, int cost) {
        all.due(name + "project", x.project(p, cost), y.project(p, cost));
    }

    private void budget(Check all, int amount) {
        all.due(name + "budget", x.budget(amount), y.budget(amount));
    }

    private void approve(Check all, int v, int p, boolean yes) {
        all.due(name + "approve", x.approve(v, p, yes), y.approve(v, p, yes));
    }

    private void raise(Check all, int step, int most) {
        all.due(name + "raise", Check.raise(x, step, most), y.raise(step, most));
    }

    private void compare(Check all) {
        all.due(name + "spent", x.spent(), y.spent());
        for (int p = -1; p <= 16; p++) {
            all.due(name + "chosen " + p, x.chosen(p), y.chosen(p));
            all.due(name + "rate " + p, Check.rate(x, p), y.rate(p));
            all.due(name + "missing " + p, Check.missing(x, p), y.missing(p));
        }
        for (int v = -1; v <= 48; v++) {
            all.due(name + "purse " + v, Check.purse(x, v), y.purse(v));
            all.due(name + "served " + v, x.served(v), y.served(v));
            all.due(name + "receipt " + v, Check.receipt(x, v), y.receipt(v));
            for (int p = -1; p <= 16; p++) {
                all.due(name + "paid " + v + " " + p, Check.paid(x, v, p), y.paid(v, p));
            }
        }
        for (int m = 0; m <= 5; m++) {
            all.due(name + "passedOver " + m, Check.passedOver(x, m), y.passedOver(m));
        }
    }
}
