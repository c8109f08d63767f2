import java.util.function.Consumer;

/** The first phase, the RESULT, and promises 8 and 9: each boundary that a sentence names, on both of its sides. */
public final class PhasesBoundariesTest {
    private static final int LOW = Integer.MIN_VALUE;
    private static final int HIGH = Integer.MAX_VALUE;
    private static final String REFUSED = "throws.IllegalArgumentException";
    private final Check check = new Check();
    private final String busy = Towns.busy().whole();
    private final String empty = new Desk().whole();

    public static void main(String[] args) {
        PhasesBoundariesTest test = new PhasesBoundariesTest();
        test.withoutVoters();
        test.withoutSupporters();
        test.purses();
        test.pursesRaised();
        test.affordedJust();
        test.affordedByParts();
        test.affordedByWhatIsLeft();
        test.rateAndPurse();
        test.rateEmptiesSeveral();
        test.rateIsWhatOneHas();
        test.wholeRestsOfManyRounds();
        test.wholeRestOfOneHighBit();
        test.rateOfAllThereIs();
        test.rateWithEmptyPurses();
        test.roundsNone();
        test.roundsTillNoneCanBeAfforded();
        test.roundsAll();
        test.leastRate();
        test.leastCost();
        test.leastNumber();
        test.tieWithEmptiedPurse();
        test.supportersAlonePay();
        test.resultStays();
        test.resultOfTheNext();
        test.runAgain();
        test.raiseSteps();
        test.raiseMosts();
        test.raiseOverBudget();
        test.raiseFirstOver();
        test.raiseAtMost();
        test.raiseByNothing();
        test.raiseLargest();
        test.raiseOfNothing();
        test.check.end();
    }

    private static String purses(Desk x, int voters) {
        StringBuilder text = new StringBuilder();
        for (int v = 0; v < voters; v++) {
            text.append(v == 0 ? "" : " ").append(x.purse(v));
        }
        return text.toString();
    }

    private static String order(Desk x) {
        StringBuilder text = new StringBuilder();
        for (int i = 0; i < 16 && x.chosen(i) != -1; i++) {
            text.append(i == 0 ? "" : " ").append(x.chosen(i));
        }
        return text.toString();
    }

    private void withoutVoters() {
        check.about("Terms: (without any nothing is chosen)");
        Desk x = Towns.town(10_000_000, 0);
        x.project(0, 1);
        check.due("run", x.run(), 0);
        check.due("chosen", x.chosen(0), -1);
        check.due("spent", x.spent(), 0);
        check.due("missing", x.missing(0), "1/1");
        x.voter(0);
        x.approve(0, 0, true);
        check.due("with one", x.run(), 1);
        x.strike(0);
        check.due("without, again", x.run(), 0);
        check.due("spent", x.spent(), 0);
    }

    private void withoutSupporters() {
        check.about("Terms: SUPPORTERS of a project are the voters that approve of it");
        Desk x = Towns.town(10_000_000, 48);
        x.project(0, 1);
        check.due("none", x.run(), 0);
        check.due("none, raised", x.raise(100_000, 100), "100");
        check.due("spent", x.spent(), 0);
        check.due("missing", x.missing(0), "1/1");
        x.approve(47, 0, true);
        check.due("one", x.run(), 1);
    }

    private void purses() {
        check.about("Terms: each has a PURSE of BUDGET / n");
        for (int n = 1; n <= 48; n++) {
            Desk x = Towns.town(1, n);
            x.run();
            check.due("the first of " + n, x.purse(0), "1/" + n);
            check.due("the last of " + n, x.purse(n - 1), "1/" + n);
            check.due("one beyond " + n, x.purse(n), "0/0");
            x.budget(n);
            x.run();
            check.due("1 for each of " + n, x.purse(0), "1/1");
            x.budget(n + 1);
            x.run();
            check.due("a little more for each of " + n, x.purse(n - 1), n == 1 ? "2/1" : n + 1 + "/" + n);
        }
        Desk x = Towns.town(10_000_000, 48);
        x.run();
        check.due("the largest budget for the most voters", x.purse(47), "625000/3");
    }

    private void pursesRaised() {
        check.about("Terms: + h");
        Desk x = Towns.town(1, 3);
        x.raise(1, 0);
        check.due("by 0", x.purse(2), "1/3");
        x.raise(1, 1);
        check.due("by 1", x.purse(2), "4/3");
        x.raise(100_000, 100);
        check.due("by 10,000,000", x.purse(2), "30000001/3");
        Desk y = Towns.town(10_000_000, 1);
        y.raise(100_000, 100);
        check.due("the fullest purse", y.purse(0), "20000000/1");
        Desk z = Towns.town(10_000_000, 48);
        z.raise(100_000, 100);
        check.due("the fullest of 48", z.purse(47), "30625000/3");
    }

    /** All that a town's voters have is as much as the project costs, or 1 less. */
    private void affordedJust() {
        check.about("Terms: can be AFFORDED if the purses of its supporters together come to its cost at least");
        for (int voters : new int[] {1, 2, 3, 7, 48}) {
            for (int cost : new int[] {1, 2, 10, 999_999, 1_000_000}) {
                Desk x = Towns.town(cost, voters);
                Towns.wantFirst(x, 3, cost, voters);
                String name = voters + " voters for " + cost;
                check.due(name + ", just", x.run(), 1);
                check.due(name + ", left", x.purse(0), "0/1");
                if (cost > 1) {
                    x.budget(cost - 1);
                    check.due(name + ", one less", x.run(), 0);
                    check.due(name + ", missing", x.missing(3), "1/1");
                }
                x.budget(cost + 1);
                check.due(name + ", one more", x.run(), 1);
                check.due(name + ", left", x.purse(0), voters == 1 ? "1/1" : "1/" + voters);
            }
        }
    }

    private void affordedByParts() {
        check.about("Terms: come to its cost at least, by fractions");
        Desk x = Towns.town(48, 48);
        Towns.want(x, 0, 1, 47);
        check.due("1 of 1", x.run(), 1);
        x.budget(47);
        check.due("1 of 47/48", x.run(), 0);
        check.due("missing", x.missing(0), "1/48");
        Desk y = Towns.town(10, 3);
        Towns.want(y, 0, 6, 0, 1);
        check.due("6 of 20/3", y.run(), 1);
        y.project(0, 7);
        check.due("7 of 20/3", y.run(), 0);
        check.due("missing", y.missing(0), "1/3");
    }

    private void affordedByWhatIsLeft() {
        check.about("Terms: come to its cost at least, by what is left");
        Desk x = Towns.town(20, 2);
        Towns.want(x, 0, 5, 0, 1);
        Towns.want(x, 1, 15, 0, 1);
        check.due("15 of 15", x.run(), 2);
        check.due("left", purses(x, 2), "0/1 0/1");
        x.project(1, 16);
        check.due("16 of 15", x.run(), 1);
        check.due("missing", x.missing(1), "1/1");
        Desk y = Towns.town(10, 3);
        Towns.want(y, 0, 1, 0, 1, 2);
        Towns.want(y, 1, 3, 0);
        check.due("3 of 10/3 - 1/3", y.run(), 2);
        check.due("left", purses(y, 3), "0/1 3/1 3/1");
        y.approve(2, 0, false);
        check.due("3 of 10/3 - 1/2", y.run(), 1);
        check.due("missing", y.missing(1), "1/6");
    }

    /** Both have 10; voter 0 pays for project 0 alone, then both for project 1 of 12. */
    private void rateAndPurse() {
        check.about("Terms: each paying r, or all it has if that is less");
        String[][] due = {{"3", "6/1", "6/1", "1/1 4/1"}, {"4", "6/1", "6/1", "0/1 4/1"},
            {"5", "7/1", "5/1", "0/1 3/1"}};
        for (String[] row : due) {
            Desk x = Towns.town(20, 2);
            Towns.want(x, 0, Integer.parseInt(row[0]), 0);
            Towns.want(x, 1, 12, 0, 1);
            check.due(row[0] + " paid ahead, run", x.run(), 2);
            check.due(row[0] + " paid ahead, rate", x.rate(1), row[1]);
            check.due(row[0] + " paid ahead, paid by 0", x.paid(0, 1), row[2]);
            check.due(row[0] + " paid ahead, paid by 1", x.paid(1, 1), row[1]);
            check.due(row[0] + " paid ahead, left", purses(x, 2), row[3]);
        }
    }

    /** Purses of 20; one voter pays 19 in four parts, another 15 in three; 1, 5 and 20 are left, in any order. */
    private void rateEmptiesSeveral() {
        check.about("Terms: all it has if that is less, one after the other");
        int[][] orders = {{0, 1, 2}, {0, 2, 1}, {1, 0, 2}, {1, 2, 0}, {2, 0, 1}, {2, 1, 0}};
        for (int[] who : orders) {
            Desk x = Towns.town(60, 3);
            for (int p = 0; p < 7; p++) {
                Towns.want(x, p, p == 3 ? 4 : 5, p < 4 ? who[0] : who[1]);
            }
            Towns.wantFirst(x, 15, 18, 3);
            check.due("run", x.run(), 8);
            check.due("1 is less than 6, 5 is less than 17/2", x.rate(15), "12/1");
            check.due("paid", paid(x, who), "1/1 5/1 12/1");
            x.project(15, 16);
            x.run();
            check.due("5 is less than 15/2", x.rate(15), "10/1");
            check.due("paid", paid(x, who), "1/1 5/1 10/1");
        }
    }

    private static String paid(Desk x, int[] voters) {
        return x.paid(voters[0], 15) + " " + x.paid(voters[1], 15) + " " + x.paid(voters[2], 15);
    }

    /** Purses of 20; voter 0 pays 12 in four parts, voter 1 pays 6 in two; 8, 14 and 20 are left. */
    private void rateIsWhatOneHas() {
        check.about("Terms: all it has if that is less, or just as much");
        Desk x = Towns.town(60, 3);
        for (int p = 0; p < 6; p++) {
            Towns.want(x, p, 3, p < 4 ? 0 : 1);
        }
        Towns.wantFirst(x, 15, 24, 3);
        x.run();
        check.due("8 is as much as 8", x.rate(15), "8/1");
        check.due("left", purses(x, 3), "0/1 6/1 12/1");
        x.project(15, 25);
        x.run();
        check.due("8 is less than 25/3", x.rate(15), "17/2");
        check.due("left", purses(x, 3), "0/1 11/2 23/2");
        x.project(15, 36);
        x.run();
        check.due("14 is as much as 14", x.rate(15), "14/1");
        check.due("left", purses(x, 3), "0/1 0/1 6/1");
        x.project(15, 37);
        x.run();
        check.due("14 is less than 29/2", x.rate(15), "15/1");
        check.due("left", purses(x, 3), "0/1 0/1 5/1");
    }

    /** In each round 32 pay 1: whatever the fractions are kept over, a whole rest is neither nothing nor less. */
    private void wholeRestsOfManyRounds() {
        check.about("Terms: as evenly as their purses allow, in whole numbers");
        for (int rounds = 1; rounds <= 13; rounds++) {
            Desk x = Towns.town(32 * 14, 32);
            for (int p = 0; p < rounds; p++) {
                Towns.wantFirst(x, p, 32, 32);
            }
            check.due("run", x.run(), rounds);
            check.due("left of 14 after " + rounds, x.purse(31), 14 - rounds + "/1");
            check.due("the last paid 1", x.paid(31, rounds - 1), "1/1");
        }
    }

    /**
     * 32 have a purse of 2^17 and 16 more; they pay 1 in 14 rounds, and a few of them in two others. Over a product of
     * the counts of those who pay, which is 2^79 then, the whole rest of 2^17 is 2^96: nothing but a fourth word.
     */
    private void wholeRestOfOneHighBit() {
        check.about("Terms: as evenly as their purses allow, a whole rest that is long inside");
        Desk x = Towns.town(32 * ((1 << 17) + 16), 32);
        for (int p = 0; p < 16; p++) {
            int count = p < 14 ? 32 : 4;
            Towns.wantFirst(x, p, count, count);
        }
        check.due("run", x.run(), 16);
        check.due("left of 2^17 + 16", x.purse(0), "131072/1");
        check.due("left of one that paid in 14 rounds", x.purse(31), "131074/1");
        check.due("spent", x.spent(), 14 * 32 + 2 * 4);
    }

    private void rateOfAllThereIs() {
        check.about("Terms: the least r such that its supporters pay its cost");
        Desk x = Towns.town(20, 2);
        Towns.want(x, 0, 3, 0);
        Towns.want(x, 1, 17, 0, 1);
        check.due("run", x.run(), 2);
        check.due("all of 7 and 10", x.rate(1), "10/1");
        check.due("left", purses(x, 2), "0/1 0/1");
        x.project(1, 16);
        x.run();
        check.due("all but 1", x.rate(1), "9/1");
        check.due("left", purses(x, 2), "0/1 1/1");
        Desk y = Towns.town(20, 2);
        Towns.want(y, 0, 20, 0, 1);
        y.run();
        check.due("all of 10 and 10", y.rate(0), "10/1");
        Desk z = Towns.town(1, 1);
        Towns.want(z, 0, 1, 0);
        z.run();
        check.due("all of 1", z.rate(0), "1/1");
    }

    private void rateWithEmptyPurses() {
        check.about("Terms: all it has, which is nothing");
        Desk x = Towns.emptied();
        check.due("the other alone", x.rate(2), "10/1");
        check.due("paid", x.paid(0, 2), "0/1");
        check.due("served all the same", x.served(0), 3);
        Desk y = Towns.town(20, 2);
        Towns.want(y, 0, 10, 0);
        Towns.want(y, 1, 11, 0);
        check.due("nobody else", y.run(), 1);
        check.due("missing", y.missing(1), "11/1");
    }

    private void roundsNone() {
        check.about("Terms: as long as one can be afforded: none");
        check.due("new", new Desk().run(), 0);
        check.due("no project", Towns.town(10, 3).run(), 0);
        Desk x = Towns.town(1, 1);
        Towns.want(x, 0, 2, 0);
        check.due("one too dear", x.run(), 0);
        check.due("order", order(x), "");
    }

    private void roundsTillNoneCanBeAfforded() {
        check.about("Terms: as long as one can be afforded");
        Desk x = Towns.town(10, 1);
        Towns.want(x, 0, 7, 0);
        Towns.want(x, 1, 6, 0);
        Towns.want(x, 2, 4, 0);
        check.due("run", x.run(), 2);
        check.due("order", order(x), "2 1");
        check.due("once afforded, not now", x.missing(0), "7/1");
        x.budget(17);
        check.due("run", x.run(), 3);
        check.due("order", order(x), "2 1 0");
        x.budget(16);
        check.due("run", x.run(), 2);
        check.due("missing", x.missing(0), "1/1");
        x.budget(10_000_000);
        check.due("each is chosen once", x.run(), 3);
        check.due("left", x.purse(0), "9999983/1");
    }

    private void roundsAll() {
        check.about("Terms: as long as one can be afforded: all");
        Desk x = Towns.town(16, 1);
        for (int p = 0; p < 16; p++) {
            Towns.want(x, p, 1, 0);
        }
        check.due("run", x.run(), 16);
        check.due("order", order(x), "0 1 2 3 4 5 6 7 8 9 10 11 12 13 14 15");
        check.due("left", x.purse(0), "0/1");
        x.budget(15);
        check.due("one less", x.run(), 15);
        check.due("missing", x.missing(15), "1/1");
    }

    private void leastRate() {
        check.about("Terms: the one with the least rate is chosen");
        Desk x = Towns.town(480, 48);
        Towns.wantFirst(x, 0, 47, 47);
        Towns.wantFirst(x, 1, 47, 48);
        x.run();
        check.due("47/48, then 1", order(x), "1 0");
        x.project(1, 48);
        x.run();
        check.due("1 both, the least cost", order(x), "0 1");
        x.project(1, 49);
        x.run();
        check.due("1, then 49/48", order(x), "0 1");
        Desk y = Towns.town(30, 3);
        Towns.want(y, 0, 2, 0);
        Towns.want(y, 1, 3, 0, 1, 2);
        y.run();
        check.due("less each, though it costs more", order(y), "1 0");
        Desk z = Towns.town(20, 2);
        Towns.want(z, 0, 10, 0);
        Towns.want(z, 1, 12, 0, 1);
        check.due("a rate is another when others were paid", z.run(), 1);
        check.due("order", order(z), "1");
    }

    private void leastCost() {
        check.about("Terms: of several that with the least cost");
        Desk x = Towns.town(60, 6);
        Towns.want(x, 0, 6, 0, 1, 2);
        Towns.want(x, 7, 4, 3, 4);
        Towns.want(x, 15, 2, 5);
        x.run();
        check.due("2 each", order(x), "15 7 0");
        Desk y = Towns.town(60, 6);
        Towns.want(y, 0, 4, 0, 1, 2);
        Towns.want(y, 1, 8, 0, 1, 2, 3, 4, 5);
        Towns.want(y, 2, 4, 3, 4, 5);
        y.run();
        check.due("4/3 each", order(y), "0 2 1");
    }

    private void leastNumber() {
        check.about("Terms: of these the least number");
        Desk x = Towns.town(60, 6);
        for (int p = 15; p >= 0; p--) {
            Towns.want(x, p, 3, p % 6);
        }
        x.run();
        check.due("3 each", order(x), "0 1 2 3 4 5 6 7 8 9 10 11 12 13 14 15");
        Desk y = Towns.town(10, 1);
        Towns.want(y, 9, 6, 0);
        Towns.want(y, 8, 6, 0);
        y.run();
        check.due("only one of them can be paid", order(y), "8");
        y.project(9, 5);
        y.run();
        check.due("the cheaper one", order(y), "9");
    }

    /** When 0 and 1 have paid 5, project 1 asks 7 of the others; project 14 asks about as much of voter 4. */
    private void tieWithEmptiedPurse() {
        check.about("Terms: of several, when a rate has grown");
        String[] due = {"0 14 1", "0 14 1", "0 1 14"};
        for (int i = 0; i < due.length; i++) {
            Desk x = Towns.town(50, 5);
            Towns.want(x, 0, 10, 0, 1);
            Towns.want(x, 1, 24, 0, 1, 2, 3);
            Towns.want(x, 14, 6 + i, 4);
            x.run();
            check.due(6 + i + " and 7", order(x), due[i]);
            check.due("rate", x.rate(1), "7/1");
        }
    }

    private void supportersAlonePay() {
        check.about("Terms: and its supporters pay so");
        Desk x = Towns.town(48, 48);
        Towns.want(x, 0, 1, 0, 47);
        x.run();
        for (int v = 0; v < 48; v++) {
            check.due("purse " + v, x.purse(v), v == 0 || v == 47 ? "1/2" : "1/1");
        }
    }

    private void changesNothingYet(String what, Consumer<Desk> change) {
        Desk x = Towns.uneven();
        String before = x.picture();
        change.accept(x);
        check.same(what + ", not run", x.picture(), before);
        x.run();
        check.due(what + ", run, is as before", x.picture().equals(before), false);
    }

    private void resultStays() {
        check.about("Terms: as they were then; it stays as it is till the next one");
        changesNothingYet("another project", x -> x.project(5, 1));
        changesNothingYet("another cost of one that was chosen", x -> x.project(1, 23));
        changesNothingYet("another cost of one that wasn't", x -> x.project(12, 12));
        changesNothingYet("a project less that was chosen", x -> x.drop(0));
        changesNothingYet("a project less that wasn't", x -> x.drop(12));
        changesNothingYet("another voter", x -> x.voter(4));
        changesNothingYet("a voter less", x -> x.strike(3));
        changesNothingYet("an approval more", x -> x.approve(2, 0, true));
        changesNothingYet("an approval less", x -> x.approve(3, 1, false));
        changesNothingYet("another budget", x -> x.budget(41));
        changesNothingYet("a voter that is entered again", x -> {
            x.strike(2);
            x.voter(2);
        });
    }

    private void resultOfTheNext() {
        check.about("Terms: THE RESULT is what run() or raise() found last");
        Desk x = Towns.town(10, 2);
        Towns.want(x, 0, 6, 0);
        x.raise(1, 1);
        check.due("raise", x.spent() + " " + purses(x, 2), "6 0/1 6/1");
        x.run();
        check.due("run", x.spent() + " " + purses(x, 2), "0 5/1 5/1");
        check.due("rate", x.rate(0), "0/0");
        x.raise(1, 2);
        check.due("raise", x.spent() + " " + purses(x, 2), "6 1/1 7/1");
        x.raise(1, 0);
        check.due("raise by 0", x.spent() + " " + purses(x, 2), "0 5/1 5/1");
    }

    private void runAgain() {
        check.about("8: how many projects are chosen");
        Desk x = Towns.uneven();
        String before = x.picture();
        for (int i = 0; i < 5; i++) {
            check.due("run again", x.run(), 2);
            check.same("run again", x.picture(), before);
        }
        for (int count = 0; count <= 16; count++) {
            Desk y = Towns.town(100, 2);
            for (int p = 0; p < count; p++) {
                Towns.want(y, 15 - p, 1 + p, 0, 1);
            }
            check.due("run with " + count, y.run(), count * (count + 1) / 2 <= 100 ? count : 13);
        }
    }

    private void refused(int step, int most) {
        String call = "raise " + step + " " + most;
        Desk x = Towns.busy();
        check.due(call, x.raise(step, most), REFUSED);
        check.same(call + " changed something", x.whole(), busy);
        Desk y = new Desk();
        check.due("new, " + call, y.raise(step, most), REFUSED);
        check.same("new, " + call + " changed something", y.whole(), empty);
    }

    private void raiseSteps() {
        check.about("9: step is not 1 .. 100,000");
        for (int step : new int[] {1, 2, 99_999, 100_000}) {
            Desk x = Towns.town(7, 1);
            check.due("step " + step, x.raise(step, 3), "3");
            check.due("purse", x.purse(0), 7 + 3 * step + "/1");
        }
        for (int step : new int[] {LOW, LOW + 1, -100_000, -1, 0, 100_001, 100_002, 1 << 20, HIGH}) {
            refused(step, 0);
            refused(step, 1);
            refused(step, 100);
        }
    }

    private void raiseMosts() {
        check.about("9: or most not 0 .. 100");
        for (int most : new int[] {0, 1, 99, 100}) {
            Desk x = Towns.town(7, 1);
            check.due("most " + most, x.raise(3, most), String.valueOf(most));
            check.due("purse", x.purse(0), 7 + 3 * most + "/1");
        }
        for (int most : new int[] {LOW, LOW + 1, -100, -1, 101, 102, 128, 256, 1 << 20, HIGH}) {
            refused(1, most);
            refused(100_000, most);
        }
        refused(0, -1);
        refused(100_001, 101);
        refused(0, 101);
        refused(100_001, -1);
    }

    /** Purses of 5; with any raise voter 0 has its 6. */
    private void raiseOverBudget() {
        check.about("9: with which what is chosen costs more than the BUDGET together");
        for (int other : new int[] {0, 1_000_000}) {
            Desk x = Towns.town(10, 2);
            Towns.want(x, 0, 6, 0);
            Towns.want(x, 1, 4, 1);
            if (other != 0) {
                x.project(9, other);
            }
            check.due("just as much", x.raise(1, 5), "5");
            check.due("spent", x.spent(), 10);
            check.due("purses", purses(x, 2), "4/1 6/1");
            x.project(1, 3);
            check.due("less", x.raise(1, 5), "5");
            check.due("spent", x.spent(), 9);
            x.project(1, 5);
            check.due("one more", x.raise(1, 5), "0");
            check.due("spent", x.spent(), 5);
            check.due("purses", purses(x, 2), "5/1 0/1");
            check.due("not chosen", x.rate(0) + " " + x.missing(0), "0/0 1/1");
        }
    }

    /** What is chosen with raises of 0, 1, .. costs 2, 2, 2, 14, 8, 8, 20, ..; the budget is 9. */
    private static Desk upAndDown() {
        Desk x = Towns.town(9, 2);
        Towns.want(x, 0, 6, 0);
        Towns.want(x, 1, 2, 0);
        Towns.want(x, 2, 12, 0, 1);
        return x;
    }

    private void raiseFirstOver() {
        check.about("9: that of the last one ahead of the first");
        Desk x = upAndDown();
        check.due("2, 2, 2, over, though less behind it", x.raise(1, 100), "2");
        check.due("spent", x.spent(), 2);
        check.due("purses", purses(x, 2), "9/2 13/2");
        check.due("2, 2, 8, over", x.raise(2, 100), "2");
        check.due("spent", x.spent(), 8);
        check.due("purses", purses(x, 2), "1/2 17/2");
        check.due("2, over", x.raise(3, 100), "0");
        check.due("spent", x.spent(), 2);
        check.due("purses", purses(x, 2), "5/2 9/2");
        check.due("2, 8, over", x.raise(4, 100), "1");
        check.due("order", order(x), "1 0");
        check.due("2, 8, over", x.raise(5, 100), "1");
        check.due("purses", purses(x, 2), "3/2 19/2");
        check.due("2, over", x.raise(6, 100), "0");
    }

    private void raiseAtMost() {
        check.about("9: but at most of most * step");
        int[] due = {0, 1, 2, 2, 2};
        for (int most = 0; most < due.length; most++) {
            Desk x = upAndDown();
            check.due("most " + most, x.raise(1, most), String.valueOf(due[most]));
            check.due("purse, most " + most, x.purse(1), 9 + 2 * due[most] + "/2");
        }
        Desk x = Towns.town(1, 1);
        Towns.want(x, 0, 100 * 9_999 + 1, 0);
        check.due("over with the last step", x.raise(9_999, 100), "99");
        check.due("purse", x.purse(0), "989902/1");
        x.project(0, 100 * 9_999 + 2);
        check.due("over behind the last step", x.raise(9_999, 100), "100");
        check.due("purse", x.purse(0), "999901/1");
        check.due("over behind the last step", x.raise(9_999, 99), "99");
        x.project(0, 1_000_000);
        check.due("the largest step", x.raise(100_000, 100), "9");
        check.due("purse", x.purse(0), "900001/1");
        x.project(0, 900_001);
        check.due("the largest step", x.raise(100_000, 100), "8");
    }

    private void raiseByNothing() {
        check.about("9: with RAISE 0, at most of 0 * step");
        Desk x = Towns.uneven();
        String before = x.picture();
        for (int step : new int[] {1, 100_000}) {
            check.due("raise by " + step, x.raise(step, 0), "0");
            check.same("as run", x.picture(), before);
        }
    }

    /** All that 48 voters can be raised to, ten of sixteen projects being all that the budget allows. */
    private void raiseLargest() {
        check.about("9: 100 * 100,000");
        Desk x = Towns.town(10_000_000, 48);
        for (int p = 0; p < 10; p++) {
            Towns.want(x, p, 1_000_000, p, 47 - p);
        }
        check.due("as much as the budget", x.raise(100_000, 100), "100");
        check.due("spent", x.spent(), 10_000_000);
        check.due("purse", x.purse(47), "29125000/3");
        check.due("purse", x.purse(24), "30625000/3");
        Towns.want(x, 15, 1, 24);
        check.due("one more", x.raise(100_000, 100), "2");
        check.due("spent", x.spent(), 1);
    }

    private void raiseOfNothing() {
        check.about("9: nothing is chosen, which never costs more than the BUDGET");
        Desk x = new Desk();
        check.due("no voters, no projects", x.raise(1, 7), "7");
        check.same("as at first", x.picture(), new Desk().picture());
        x.project(0, 1_000_000);
        check.due("no voters", x.raise(100_000, 100), "100");
        check.due("chosen", x.chosen(0), -1);
        check.due("missing", x.missing(0), "1000000/1");
        check.due("no projects", Towns.town(1, 2).raise(1, 9), "9");
    }
}
