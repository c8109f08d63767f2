import java.util.function.Predicate;

/** Promises 1 to 7: for each sentence that names a boundary what lies within it, what lies beyond, and the refusal. */
public final class EntriesBoundariesTest {
    private static final int LOW = Integer.MIN_VALUE;
    private static final int HIGH = Integer.MAX_VALUE;
    /** Some of them would be a project's number again if only their lowest 4, 5, 6, 8 or 16 bits were looked at. */
    private static final int[] NO_PROJECTS = {LOW, LOW + 1, -32, -16, -15, -1, 16, 17, 31, 32, 33, 47, 64, 256, 65_536,
        HIGH};
    private static final int[] NO_VOTERS = {LOW, LOW + 1, -64, -48, -47, -1, 48, 49, 63, 64, 65, 95, 96, 111, 128, 256,
        65_536, HIGH};
    private static final int[] NO_COSTS = {LOW, LOW + 1, -1_000_000, -1, 0, 1_000_001, 1_000_002, 1 << 24, HIGH};
    private static final int[] NO_BUDGETS = {LOW, LOW + 1, -10_000_000, -1, 0, 10_000_001, 10_000_002, 1 << 24, HIGH};
    private final Check check = new Check();
    private final String busy = Towns.busy().whole();
    private final String empty = new Desk().whole();

    public static void main(String[] args) {
        EntriesBoundariesTest test = new EntriesBoundariesTest();
        test.newObjectWithoutProjects();
        test.newObjectWithoutVoters();
        test.newObjectWithoutResult();
        test.projectNumbers();
        test.projectCosts();
        test.projectOfAnotherCost();
        test.projectsAllThere();
        test.dropWhatIsThere();
        test.dropWhatIsNot();
        test.dropAndComeAgain();
        test.budgets();
        test.budgetAtFirst();
        test.voterNumbers();
        test.voterThere();
        test.voterApprovingOfNothing();
        test.votersAllThere();
        test.strikeWhoIsThere();
        test.strikeWhoIsNot();
        test.strikeTheLast();
        test.approveByNoVoter();
        test.approveOfNoProject();
        test.approveOfProjectNotThere();
        test.approveAndNoMore();
        test.check.end();
    }

    /** A refusal changes nothing, neither in a town with a RESULT that is another, nor in a new one. */
    private void refused(String call, Predicate<Desk> made) {
        Desk x = Towns.busy();
        check.due(call, made.test(x), false);
        check.same(call + " changed something", x.whole(), busy);
    }

    private void refusedAtFirst(String call, Predicate<Desk> made) {
        Desk x = new Desk();
        check.due("new, " + call, made.test(x), false);
        check.same("new, " + call + " changed something", x.whole(), empty);
    }

    private void newObjectWithoutProjects() {
        check.about("1: No projects");
        for (int p = 0; p < 16; p++) {
            int one = p;
            refusedAtFirst("drop " + p, x -> x.drop(one));
            Desk x = new Desk();
            x.project(p, 1);
            check.due("drop " + p + ", entered", x.drop(p), true);
        }
    }

    private void newObjectWithoutVoters() {
        check.about("1: no voters");
        for (int v = 0; v < 48; v++) {
            int one = v;
            refusedAtFirst("strike " + v, x -> x.strike(one));
            refusedAtFirst("approve " + v, x -> x.approve(one, 0, true));
            Desk x = new Desk();
            check.due("voter " + v, x.voter(v), true);
            check.due("strike " + v + ", entered", x.strike(v), true);
        }
    }

    private void newObjectWithoutResult() {
        check.about("Terms: none at first: no voters, no projects");
        Desk x = new Desk();
        check.due("spent", x.spent(), 0);
        for (int i = 0; i < 48; i++) {
            check.due("chosen " + i, x.chosen(i), -1);
            check.due("rate " + i, x.rate(i), "0/0");
            check.due("missing " + i, x.missing(i), "0/0");
            check.due("purse " + i, x.purse(i), "0/0");
            check.due("paid " + i, x.paid(i, 0), "0/0");
            check.due("served " + i, x.served(i), 0);
            check.due("receipt " + i, x.receipt(i, 0), -1);
        }
        for (int m = 1; m <= 4; m++) {
            check.due("passedOver " + m, x.passedOver(m), "0");
        }
        Desk y = Towns.town(40, 4);
        Towns.want(y, 0, 10, 0, 1);
        check.same("entered, not run", y.picture(), new Desk().picture());
        y.run();
        check.due("run", y.purse(0), "5/1");
    }

    private void projectNumbers() {
        check.about("2: refused, when it is not 0 .. 15");
        for (int p = 0; p < 16; p++) {
            Desk x = Towns.town(1, 1);
            x.approve(0, p, true);
            check.due("project " + p, x.project(p, 1), true);
            check.due("run with project " + p, x.run(), 1);
            check.due("chosen", x.chosen(0), p);
        }
        for (int p : NO_PROJECTS) {
            refused("project " + p, x -> x.project(p, 1));
            refusedAtFirst("project " + p, x -> x.project(p, 1));
        }
    }

    private void projectCosts() {
        check.about("2: or the cost not as said (1 .. 1,000,000)");
        for (int cost : new int[] {1, 2, 999_999, 1_000_000}) {
            Desk x = new Desk();
            check.due("cost " + cost, x.project(3, cost), true);
            x.run();
            check.due("missing", x.missing(3), cost + "/1");
        }
        for (int cost : NO_COSTS) {
            refused("cost " + cost + " of one that is there", x -> x.project(1, cost));
            refused("cost " + cost + " of one that isn't", x -> x.project(2, cost));
            refused("cost " + cost + " of one that was dropped", x -> x.project(15, cost));
            refusedAtFirst("cost " + cost, x -> x.project(0, cost));
        }
        refused("both wrong", x -> x.project(16, 0));
        refused("both wrong", x -> x.project(-1, 1_000_001));
    }

    private void projectOfAnotherCost() {
        check.about("2: A project is entered, or gets another cost");
        Desk x = Towns.town(10, 1);
        Towns.want(x, 4, 11, 0);
        check.due("run", x.run(), 0);
        check.due("another cost", x.project(4, 10), true);
        check.due("the RESULT's cost", x.missing(4), "1/1");
        check.due("run", x.run(), 1);
        check.due("spent", x.spent(), 10);
        check.due("the same cost again", x.project(4, 10), true);
        check.due("run", x.run(), 1);
        check.due("too dear again", x.project(4, 1_000_000), true);
        check.due("run", x.run(), 0);
        check.due("missing", x.missing(4), "999990/1");
    }

    private void projectsAllThere() {
        check.about("2: all of 0 .. 15 there");
        Desk x = Towns.town(16, 1);
        for (int p = 15; p >= 0; p--) {
            check.due("project " + p, x.project(p, 1), true);
            x.approve(0, p, true);
        }
        String before = x.whole();
        check.due("a seventeenth", x.project(16, 1), false);
        check.same("a seventeenth changed something", x.whole(), before);
        check.due("run", x.run(), 16);
    }

    private void dropWhatIsThere() {
        check.about("3: A project is there no more");
        for (int p = 0; p < 16; p++) {
            Desk x = Towns.town(16, 1);
            for (int q = 0; q < 16; q++) {
                Towns.want(x, q, 1, 0);
            }
            x.run();
            check.due("drop " + p, x.drop(p), true);
            check.due("the RESULT stays", x.spent(), 16);
            check.due("drop " + p + " again", x.drop(p), false);
            check.due("run", x.run(), 15);
            check.due("chosen", x.chosen(p), p < 15 ? p + 1 : -1);
            check.due("missing", x.missing(p), "0/0");
        }
    }

    private void dropWhatIsNot() {
        check.about("3: refused, when it isn't there");
        refused("never there", x -> x.drop(2));
        refused("never there, but approved of", x -> x.drop(7));
        refused("dropped before", x -> x.drop(15));
        for (int p : NO_PROJECTS) {
            refused("drop " + p, x -> x.drop(p));
            refusedAtFirst("drop " + p, x -> x.drop(p));
        }
    }

    private void dropAndComeAgain() {
        check.about("3: approvals of it stay, should it come again");
        Desk x = Towns.town(30, 3);
        Towns.want(x, 15, 10, 0, 1);
        x.run();
        x.drop(15);
        check.due("run without it", x.run(), 0);
        check.due("comes again", x.project(15, 11), true);
        check.due("run", x.run(), 1);
        check.due("paid", x.paid(0, 15), "11/2");
        check.due("paid", x.paid(1, 15), "11/2");
        check.due("paid by who never wanted it", x.paid(2, 15), "0/1");
        x.drop(15);
        check.due("no more, while it isn't there", x.approve(0, 15, false), true);
        check.due("now, while it isn't there", x.approve(2, 15, true), true);
        x.project(15, 12);
        check.due("run", x.run(), 1);
        check.due("paid", x.paid(0, 15), "0/1");
        check.due("paid", x.paid(1, 15), "6/1");
        check.due("paid", x.paid(2, 15), "6/1");
        x.drop(15);
        x.strike(1);
        x.voter(1);
        x.project(15, 7);
        check.due("run", x.run(), 1);
        check.due("a voter that was entered again since", x.paid(1, 15), "0/1");
        check.due("the other", x.paid(2, 15), "7/1");
    }

    private void budgets() {
        check.about("4: refused, when it is not as said (1 .. 10,000,000)");
        for (int amount : new int[] {1, 2, 9_999_999, 10_000_000}) {
            Desk x = Towns.town(77, 1);
            x.run();
            check.due("budget " + amount, x.budget(amount), true);
            check.due("the RESULT stays", x.purse(0), "77/1");
            x.run();
            check.due("purse", x.purse(0), amount + "/1");
        }
        for (int amount : NO_BUDGETS) {
            refused("budget " + amount, x -> x.budget(amount));
            refusedAtFirst("budget " + amount, x -> x.budget(amount));
        }
    }

    private void budgetAtFirst() {
        check.about("Terms: BUDGET (1 at first)");
        Desk x = new Desk();
        x.voter(5);
        Towns.want(x, 5, 1, 5);
        check.due("cost 1", x.run(), 1);
        x.project(5, 2);
        check.due("cost 2", x.run(), 0);
        check.due("missing", x.missing(5), "1/1");
        check.due("purse", x.purse(5), "1/1");
    }

    private void voterNumbers() {
        check.about("5: refused, when it is not 0 .. 47");
        for (int v = 0; v < 48; v++) {
            Desk x = new Desk();
            check.due("voter " + v, x.voter(v), true);
            x.run();
            for (int w = 0; w < 48; w++) {
                check.due("purse " + w, x.purse(w), w == v ? "1/1" : "0/0");
            }
        }
        for (int v : NO_VOTERS) {
            refused("voter " + v, x -> x.voter(v));
            refusedAtFirst("voter " + v, x -> x.voter(v));
        }
    }

    private void voterThere() {
        check.about("5: or there");
        for (int v : new int[] {0, 1, 2, 47}) {
            refused("voter " + v, x -> x.voter(v));
        }
        Desk x = Towns.busy();
        check.due("one that was struck isn't there", x.voter(3), true);
        check.due("now it is", x.voter(3), false);
        check.due("one that never was", x.voter(46), true);
        check.due("now it is", x.voter(46), false);
    }

    private void voterApprovingOfNothing() {
        check.about("5: A voter is entered, approving of nothing; Terms: (first of none)");
        Desk x = Towns.town(100, 1);
        for (int p = 0; p < 16; p++) {
            x.project(p, 1);
        }
        check.due("run", x.run(), 0);
        for (int p = 0; p < 16; p++) {
            x.approve(0, p, true);
        }
        check.due("run", x.run(), 16);
        check.due("entered, being there", x.voter(0), false);
        check.due("a refused one approves as before", x.run(), 16);
        x.strike(0);
        check.due("entered again", x.voter(0), true);
        check.due("run", x.run(), 0);
        check.due("served", x.served(0), 0);
        x.approve(0, 9, true);
        check.due("run", x.run(), 1);
    }

    private void votersAllThere() {
        check.about("5: all of 0 .. 47 there");
        Desk x = new Desk();
        for (int v = 47; v >= 0; v--) {
            check.due("voter " + v, x.voter(v), true);
        }
        x.run();
        String before = x.whole();
        for (int v = -1; v <= 48; v++) {
            check.due("voter " + v + " again", x.voter(v), false);
            check.due("purse " + v, x.purse(v), v < 0 || v > 47 ? "0/0" : "1/48");
        }
        check.same("a refused one changed something", x.whole(), before);
    }

    private void strikeWhoIsThere() {
        check.about("6: A voter is there no more");
        for (int v = 0; v < 48; v++) {
            Desk x = Towns.town(48, 48);
            Towns.want(x, 0, 1, v);
            x.run();
            check.due("strike " + v, x.strike(v), true);
            check.due("the RESULT stays", x.paid(v, 0), "1/1");
            check.due("strike " + v + " again", x.strike(v), false);
            check.due("run", x.run(), 0);
            check.due("purse", x.purse(v), "0/0");
            check.due("another's purse", x.purse(47 - v), "48/47");
        }
    }

    private void strikeWhoIsNot() {
        check.about("6: refused, when it isn't there");
        refused("struck before", x -> x.strike(3));
        refused("never there", x -> x.strike(4));
        refused("never there", x -> x.strike(46));
        for (int v : NO_VOTERS) {
            refused("strike " + v, x -> x.strike(v));
            refusedAtFirst("strike " + v, x -> x.strike(v));
        }
    }

    private void strikeTheLast() {
        check.about("6: no voter is left");
        Desk x = Towns.town(10, 2);
        Towns.want(x, 0, 1, 0, 1);
        x.run();
        check.due("strike", x.strike(0), true);
        check.due("one is left", x.run(), 1);
        check.due("strike", x.strike(1), true);
        check.due("the RESULT stays", x.receipt(1), "00 1;=9.");
        check.due("none is left", x.run(), 0);
        check.due("chosen", x.chosen(0), -1);
        check.due("receipt", x.receipt(1), "");
        check.due("none to strike", x.strike(1), false);
    }

    private void approveByNoVoter() {
        check.about("7: refused, when the voter isn't there");
        for (int v : new int[] {3, 4, 46}) {
            refused("approve by " + v, x -> x.approve(v, 1, true));
            refused("no more by " + v, x -> x.approve(v, 1, false));
        }
        for (int v : NO_VOTERS) {
            refused("approve by " + v, x -> x.approve(v, 12, true));
            refused("no more by " + v, x -> x.approve(v, 1, false));
            refusedAtFirst("approve by " + v, x -> x.approve(v, 0, true));
        }
        Desk x = Towns.town(20, 1);
        x.project(0, 20);
        x.approve(1, 0, true);
        check.due("then entered", x.voter(1), true);
        check.due("what was refused doesn't count", x.run(), 0);
        check.due("there now", x.approve(1, 0, true), true);
        x.project(0, 10);
        check.due("run", x.run(), 1);
    }

    private void approveOfNoProject() {
        check.about("7: or p is not 0 .. 15");
        for (int p = 0; p < 16; p++) {
            Desk x = Towns.town(16, 1);
            for (int q = 0; q < 16; q++) {
                x.project(q, 1);
            }
            check.due("approve of " + p, x.approve(0, p, true), true);
            check.due("run", x.run(), 1);
            check.due("chosen", x.chosen(0), p);
        }
        for (int p : NO_PROJECTS) {
            refused("approve of " + p, x -> x.approve(47, p, true));
            refused("no more of " + p, x -> x.approve(47, p, false));
        }
        refused("both wrong", x -> x.approve(48, 16, true));
        refused("both wrong", x -> x.approve(-1, -1, false));
    }

    private void approveOfProjectNotThere() {
        check.about("7: (p needn't be there)");
        Desk x = Towns.town(30, 2);
        check.due("never there", x.approve(0, 6, true), true);
        check.due("nothing to choose", x.run(), 0);
        check.due("served", x.served(0), 0);
        x.project(6, 5);
        check.due("it counts when the project comes", x.run(), 1);
        check.due("rate", x.rate(6), "5/1");
        x.drop(6);
        check.due("dropped", x.approve(1, 6, true), true);
        check.due("dropped, no more", x.approve(0, 6, false), true);
        x.project(6, 5);
        x.run();
        check.due("paid", x.paid(0, 6), "0/1");
        check.due("paid", x.paid(1, 6), "5/1");
    }

    private void approveAndNoMore() {
        check.about("7: A voter approves of project p, or no more");
        Desk x = Towns.town(30, 2);
        x.project(0, 5);
        check.due("no more, what never was", x.approve(0, 0, false), true);
        check.due("run", x.run(), 0);
        check.due("yes", x.approve(0, 0, true), true);
        check.due("yes, again", x.approve(0, 0, true), true);
        check.due("run", x.run(), 1);
        check.due("paid once", x.paid(0, 0), "5/1");
        check.due("another's approval is its own", x.served(1), 0);
        check.due("no more", x.approve(0, 0, false), true);
        check.due("the RESULT stays", x.served(0), 1);
        check.due("run", x.run(), 0);
        check.due("yes once more", x.approve(0, 0, true), true);
        check.due("run", x.run(), 1);
    }
}
