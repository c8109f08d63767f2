import java.math.BigInteger;

/** Each promise of the document by itself: ordinary inputs, its edges, and wrong inputs. */
public final class PromisesTest {
    private static final String REFUSED = "throws.IllegalArgumentException";
    private static final int[] FAR = {Integer.MIN_VALUE, -1, Integer.MAX_VALUE};
    private final Check check = new Check();

    public static void main(String[] args) {
        PromisesTest test = new PromisesTest();
        test.promise1NewObject();
        test.promise2Project();
        test.promise3Drop();
        test.promise4Budget();
        test.promise5Voter();
        test.promise6Strike();
        test.promise7Approve();
        test.promise8RunOrder();
        test.promise8RunUneven();
        test.promise8RunKeepsItsTown();
        test.promise9Raise();
        test.promise9RaiseStopsAtFirst();
        test.promise9RaiseWrong();
        test.promise10Chosen();
        test.promise11Spent();
        test.promise12Purse();
        test.promise12LongPurse();
        test.promise13Paid();
        test.promise14Rate();
        test.promise15Missing();
        test.promise16Served();
        test.promise17PassedOver();
        test.promise17PassedOverServed();
        test.promise17PassedOverWrong();
        test.promise18Receipt();
        test.promise18LongReceipt();
        test.check.end();
    }

    private void promise1NewObject() {
        Desk x = new Desk();
        check.due("1 spent", x.spent(), 0);
        check.due("1 chosen", x.chosen(0), -1);
        for (int i = 0; i < 48; i++) {
            check.due("1 purse", x.purse(i), "0/0");
            check.due("1 paid", x.paid(i, 0), "0/0");
            check.due("1 rate", x.rate(i), "0/0");
            check.due("1 missing", x.missing(i), "0/0");
            check.due("1 served", x.served(i), 0);
            check.due("1 receipt", x.receipt(i, 0), -1);
            check.due("1 drop", x.drop(i), false);
            check.due("1 strike", x.strike(i), false);
            check.due("1 approve", x.approve(i, 0, true), false);
        }
        check.due("1 passedOver", x.passedOver(1), "0");
        check.due("1 run", x.run(), 0);
        x.voter(0);
        x.run();
        check.due("1 the first budget", x.purse(0), "1/1");
        Desk other = new Desk();
        check.due("1 another object has its own voters", other.voter(0), true);
    }

    private void promise2Project() {
        Desk x = new Desk();
        check.due("2 least", x.project(0, 1), true);
        check.due("2 most", x.project(15, 1_000_000), true);
        check.due("2 project -1", x.project(-1, 1), false);
        check.due("2 project 16", x.project(16, 1), false);
        check.due("2 cost 0", x.project(1, 0), false);
        check.due("2 cost -1", x.project(1, -1), false);
        check.due("2 cost 1000001", x.project(1, 1_000_001), false);
        for (int p : FAR) {
            check.due("2 far project", x.project(p, 1), false);
        }
        x.run();
        check.due("2 cost of 0", x.missing(0), "1/1");
        check.due("2 cost of 15", x.missing(15), "1000000/1");
        check.due("2 refused, not there", x.missing(1), "0/0");
        check.due("2 another cost", x.project(0, 7), true);
        check.due("2 refused cost", x.project(0, 0), false);
        check.due("2 refused cost", x.project(0, 1_000_001), false);
        x.run();
        check.due("2 another cost", x.missing(0), "7/1");
    }

    private void promise3Drop() {
        Desk x = Towns.town(10, 2);
        Towns.want(x, 0, 4, 0, 1);
        Towns.want(x, 15, 5, 0, 1);
        check.due("3 run", x.run(), 2);
        check.due("3 drop", x.drop(15), true);
        check.due("3 drop again", x.drop(15), false);
        check.due("3 drop what wasn't there", x.drop(7), false);
        check.due("3 drop -1", x.drop(-1), false);
        check.due("3 drop 16", x.drop(16), false);
        for (int p : FAR) {
            check.due("3 drop far", x.drop(p), false);
        }
        check.due("3 run without it", x.run(), 1);
        check.due("3 served", x.served(0), 1);
        check.due("3 comes again", x.project(15, 3), true);
        check.due("3 approvals stayed", x.run(), 2);
        check.due("3 paid", x.paid(1, 15), "3/2");
    }

    private void promise4Budget() {
        Desk x = Towns.town(1, 1);
        check.due("4 most", x.budget(10_000_000), true);
        x.run();
        check.due("4 purse", x.purse(0), "10000000/1");
        check.due("4 over most", x.budget(10_000_001), false);
        check.due("4 nothing", x.budget(0), false);
        for (int amount : new int[] {Integer.MIN_VALUE, -1, Integer.MAX_VALUE}) {
            check.due("4 far", x.budget(amount), false);
        }
        x.run();
        check.due("4 refused changes nothing", x.purse(0), "10000000/1");
        check.due("4 least", x.budget(1), true);
        check.due("4 the result stays", x.purse(0), "10000000/1");
        x.run();
        check.due("4 purse", x.purse(0), "1/1");
    }

    private void promise5Voter() {
        Desk x = new Desk();
        x.budget(10);
        check.due("5 first", x.voter(0), true);
        check.due("5 last", x.voter(47), true);
        check.due("5 voter -1", x.voter(-1), false);
        check.due("5 voter 48", x.voter(48), false);
        check.due("5 voter 64", x.voter(64), false);
        for (int v : FAR) {
            check.due("5 far", x.voter(v), false);
        }
        x.project(0, 5);
        check.due("5 approving of nothing", x.run(), 0);
        check.due("5 n is 2", x.purse(47), "5/1");
        x.approve(47, 0, true);
        check.due("5 there", x.voter(47), false);
        check.due("5 refused changes nothing", x.run(), 1);
        x.strike(47);
        x.voter(47);
        check.due("5 entered again, approving of nothing", x.run(), 0);
    }

    private void promise6Strike() {
        Desk x = Towns.town(10, 2);
        Towns.want(x, 0, 5, 1);
        check.due("6 run", x.run(), 1);
        check.due("6 strike", x.strike(1), true);
        check.due("6 strike again", x.strike(1), false);
        check.due("6 strike what wasn't there", x.strike(47), false);
        check.due("6 strike -1", x.strike(-1), false);
        check.due("6 strike 48", x.strike(48), false);
        check.due("6 strike 64", x.strike(64), false);
        for (int v : FAR) {
            check.due("6 strike far", x.strike(v), false);
        }
        check.due("6 the result stays", x.paid(1, 0), "5/1");
        check.due("6 run without", x.run(), 0);
        check.due("6 was not there", x.purse(1), "0/0");
        check.due("6 all is the other's", x.purse(0), "10/1");
        check.due("6 missing", x.missing(0), "5/1");
    }

    private void promise7Approve() {
        Desk x = Towns.town(10, 1);
        check.due("7 p needn't be there", x.approve(0, 15, true), true);
        check.due("7 p 0", x.approve(0, 0, true), true);
        check.due("7 p -1", x.approve(0, -1, true), false);
        check.due("7 p 16", x.approve(0, 16, true), false);
        check.due("7 p 32", x.approve(0, 32, true), false);
        check.due("7 no voter", x.approve(1, 0, true), false);
        check.due("7 voter -1", x.approve(-1, 0, true), false);
        check.due("7 voter 48", x.approve(48, 0, true), false);
        for (int far : FAR) {
            check.due("7 far voter", x.approve(far, 0, true), false);
            check.due("7 far project", x.approve(0, far, true), false);
        }
        x.project(15, 3);
        x.project(0, 4);
        check.due("7 run", x.run(), 2);
        check.due("7 no more", x.approve(0, 15, false), true);
        check.due("7 no more, again", x.approve(0, 15, false), true);
        check.due("7 the result stays", x.served(0), 2);
        check.due("7 run", x.run(), 1);
        check.due("7 chosen", x.chosen(0), 0);
        x.voter(1);
        x.run();
        check.due("7 a refused approval is no approval", x.served(1), 0);
    }

    private void promise8RunOrder() {
        Desk x = Towns.town(60, 6);
        Towns.want(x, 3, 6, 0, 1);
        Towns.want(x, 4, 4, 2, 3);
        Towns.want(x, 5, 2, 4);
        Towns.want(x, 6, 2, 5);
        Towns.want(x, 2, 2, 4);
        check.due("8 run", x.run(), 5);
        int[] order = {2, 5, 6, 4, 3};
        for (int i = 0; i < order.length; i++) {
            check.due("8 least rate, then cost, then number " + i, x.chosen(i), order[i]);
        }
        Desk none = new Desk();
        none.project(0, 1);
        check.due("8 no voters", none.run(), 0);
        check.due("8 no voters", none.chosen(0), -1);
    }

    private void promise8RunUneven() {
        Desk x = Towns.uneven();
        check.due("8 chosen", x.chosen(0), 0);
        check.due("8 chosen", x.chosen(1), 1);
        check.due("8 chosen", x.chosen(2), -1);
        check.due("8 rate", x.rate(1), "7/1");
        Desk dear = Towns.town(30, 3);
        Towns.want(dear, 0, 8, 0);
        Towns.want(dear, 1, 22, 0, 1, 2);
        Towns.want(dear, 2, 31, 0, 1, 2);
        check.due("8 the cheaper share first, the others too dear then", dear.run(), 1);
        check.due("8 the cheaper share", dear.rate(1), "22/3");
        Desk just = Towns.town(20, 2);
        Towns.want(just, 0, 10, 0);
        Towns.want(just, 1, 10, 1);
        check.due("8 all that is there", just.run(), 2);
        check.due("8 nothing left", just.purse(1), "0/1");
        just.project(1, 11);
        check.due("8 one too dear", just.run(), 1);
    }

    private void promise8RunKeepsItsTown() {
        Desk x = Towns.uneven();
        String receipt = x.receipt(3);
        x.budget(99);
        x.strike(3);
        x.drop(1);
        x.project(12, 99);
        x.approve(2, 12, false);
        x.voter(9);
        check.due("8 receipt stays", x.receipt(3), receipt);
        check.due("8 spent stays", x.spent(), 34);
        check.due("8 missing stays", x.missing(12), "10/1");
        check.due("8 rate stays", x.rate(1), "7/1");
        check.due("8 served stays", x.served(3), 1);
        check.due("8 not there then", x.purse(9), "0/0");
        x.run();
        check.due("8 the next result", x.purse(9), "99/4");
    }

    private void promise9Raise() {
        Desk x = Towns.town(10, 3);
        Towns.want(x, 0, 4, 0);
        Towns.want(x, 1, 7, 1, 2);
        check.due("9 the first step overspends", x.raise(1, 20), "0");
        check.due("9 nothing", x.spent(), 0);
        x.project(0, 3);
        check.due("9 no step overspends", x.raise(1, 20), "20");
        check.due("9 both", x.spent(), 10);
        check.due("9 purse with the raise", x.purse(0), "61/3");
        check.due("9 most is 0", x.raise(5, 0), "0");
        check.due("9 as run", x.spent(), 3);
        x.project(2, 1_000_000);
        check.due("9 what nobody wants is never bought", x.raise(100_000, 100), "100");
        check.due("9 most times step", x.purse(0), "30000001/3");
        Desk none = new Desk();
        check.due("9 no voters", none.raise(1, 4), "4");
        check.due("9 no voters", none.chosen(0), -1);
    }

    /** Steps of 2: at 2 project 1 comes in, at 4 project 2, which is too much. */
    private void promise9RaiseStopsAtFirst() {
        Desk x = Towns.town(12, 3);
        Towns.want(x, 0, 1, 0);
        Towns.want(x, 1, 6, 1);
        Towns.want(x, 2, 8, 2);
        check.due("9 run", x.run(), 1);
        check.due("9 steps", x.raise(2, 50), "1");
        check.due("9 chosen", x.chosen(1), 1);
        check.due("9 chosen", x.chosen(2), -1);
        check.due("9 spent", x.spent(), 7);
        check.due("9 purse", x.purse(0), "5/1");
        check.due("9 missing", x.missing(2), "2/1");
        check.due("9 at most", x.raise(1, 3), "3");
        check.due("9 purse", x.purse(0), "6/1");
        x.budget(15);
        check.due("9 just the budget isn't more", x.raise(1, 9), "9");
        check.due("9 spent", x.spent(), 15);
        x.budget(10);
        Towns.want(x, 3, 4, 0);
        x.strike(2);
        check.due("9 over the budget by one", x.raise(1, 9), "0");
    }

    private void promise9RaiseWrong() {
        Desk x = Towns.uneven();
        x.budget(50);
        int[][] wrong = {{0, 1}, {-1, 1}, {100_001, 1}, {1, -1}, {1, 101}, {0, 101},
            {Integer.MIN_VALUE, 1}, {Integer.MAX_VALUE, 1}, {1, Integer.MIN_VALUE}, {1, Integer.MAX_VALUE}};
        for (int[] call : wrong) {
            check.due("9 raise " + call[0] + " " + call[1], x.raise(call[0], call[1]), REFUSED);
        }
        check.due("9 refused changes nothing", x.receipt(2), "01 7;=3.");
        check.due("9 edge", new Desk().raise(100_000, 100), "100");
        check.due("9 edge", new Desk().raise(1, 0), "0");
    }

    private void promise10Chosen() {
        Desk x = Towns.emptied();
        int[] due = {0, 1, 2, -1};
        for (int i = 0; i < due.length; i++) {
            check.due("10 chosen " + i, x.chosen(i), due[i]);
        }
        check.due("10 chosen 16", x.chosen(16), -1);
        for (int i : FAR) {
            check.due("10 chosen far", x.chosen(i), -1);
        }
        Desk all = Towns.town(10_000_000, 48);
        for (int p = 0; p < 16; p++) {
            Towns.want(all, p, 100 - p, 0, 47);
        }
        check.due("10 all", all.run(), 16);
        for (int i = 0; i < 16; i++) {
            check.due("10 all, chosen " + i, all.chosen(i), 15 - i);
        }
        check.due("10 no round 16", all.chosen(16), -1);
        all.strike(0);
        all.strike(47);
        check.due("10 none", all.run(), 0);
        check.due("10 nothing of the last result", all.chosen(0), -1);
    }

    private void promise11Spent() {
        check.due("11 spent", Towns.emptied().spent(), 30);
        Desk x = Towns.town(10_000_000, 1);
        for (int p = 0; p < 16; p++) {
            Towns.want(x, p, 1_000_000, 0);
        }
        check.due("11 run", x.run(), 10);
        check.due("11 spent", x.spent(), 10_000_000);
        x.drop(0);
        check.due("11 stays", x.spent(), 10_000_000);
        x.strike(0);
        x.run();
        check.due("11 nothing", x.spent(), 0);
    }

    private void promise12Purse() {
        Desk x = Towns.town(14, 6);
        Towns.want(x, 0, 1, 0, 1);
        x.run();
        check.due("12 lowest terms", x.purse(5), "7/3");
        check.due("12 lowest terms", x.purse(0), "11/6");
        check.due("12 empty", Towns.emptied().purse(0), "0/1");
        check.due("12 not there", x.purse(6), "0/0");
        for (int far : FAR) {
            check.due("12 far voter", x.purse(far), "0/0");
            check.due("12 no such part", x.purse(0, far, 0), 0);
            check.due("12 no such word", x.purse(0, 0, far), 0);
            check.due("12 no such word", x.purse(0, 1, far), 0);
        }
        check.due("12 part 2", x.purse(0, 2, 0), 0);
        check.due("12 word 1", x.purse(0, 0, 1), 0);
        check.due("12 voter 48", x.purse(48), "0/0");
    }

    private static Reference.Fraction part(int top, int bottom) {
        return new Reference.Fraction(BigInteger.valueOf(top), BigInteger.valueOf(bottom));
    }

    private void promise12LongPurse() {
        Desk x = Towns.primes();
        Reference.Fraction left = part(10_000_000, 47);
        for (int count : Towns.COUNTS) {
            left = left.minus(part(1, count));
        }
        check.due("12 long", x.purse(0), left.words());
        check.due("12 more than one word", left.bottom().bitLength() > 64 ? 1 : 0, 1);
        check.due("12 word 2", x.purse(0, 0, 2), left.top().shiftRight(64).intValue());
        check.due("12 word 2", x.purse(0, 1, 2), left.bottom().shiftRight(64).intValue());
        check.due("12 words beyond", x.purse(0, 0, 4) | x.purse(0, 1, 4) | x.purse(0, 0, 99), 0);
    }

    private void promise13Paid() {
        Desk x = Towns.uneven();
        check.due("13 the rate", x.paid(0, 0), "5/1");
        check.due("13 all it has", x.paid(0, 1), "5/1");
        check.due("13 the rate", x.paid(3, 1), "7/1");
        check.due("13 no supporter", x.paid(3, 0), "0/1");
        check.due("13 not chosen", x.paid(0, 12), "0/1");
        check.due("13 not there", x.paid(0, 5), "0/1");
        check.due("13 project -1", x.paid(0, -1), "0/1");
        check.due("13 project 16", x.paid(0, 16), "0/1");
        check.due("13 no voter", x.paid(4, 0), "0/0");
        for (int far : FAR) {
            check.due("13 far project", x.paid(0, far), "0/1");
            check.due("13 far voter", x.paid(far, 0), "0/0");
            check.due("13 no such part", x.paid(0, 0, far, 0), 0);
            check.due("13 no such word", x.paid(0, 0, 0, far), 0);
        }
        check.due("13 part 2", x.paid(0, 0, 2, 0), 0);
        Desk y = Towns.emptied();
        check.due("13 with an empty purse", y.paid(0, 2), "0/1");
        check.due("13 alone", y.paid(3, 2), "10/1");
        check.due("13 part", Towns.primes().paid(0, 13), "1/32");
    }

    private void promise14Rate() {
        Desk x = Towns.uneven();
        check.due("14 rate", x.rate(0), "5/1");
        check.due("14 rate", x.rate(1), "7/1");
        check.due("14 not chosen", x.rate(12), "0/0");
        check.due("14 not there", x.rate(2), "0/0");
        for (int far : FAR) {
            check.due("14 far", x.rate(far), "0/0");
            check.due("14 no such part", x.rate(0, far, 0), 0);
            check.due("14 no such word", x.rate(0, 0, far), 0);
        }
        check.due("14 part 2", x.rate(0, 2, 0), 0);
        check.due("14 alone, others having nothing", Towns.emptied().rate(2), "10/1");
        check.due("14 lowest terms", Towns.primes().rate(14), "1/27");
        Desk y = Towns.town(12, 2);
        Towns.want(y, 0, 12, 0, 1);
        y.run();
        check.due("14 as much as the largest purse", y.rate(0), "6/1");
    }

    private void promise15Missing() {
        Desk x = Towns.uneven();
        check.due("15 missing", x.missing(12), "10/1");
        check.due("15 chosen", x.missing(0), "0/0");
        check.due("15 not there", x.missing(2), "0/0");
        for (int far : FAR) {
            check.due("15 far", x.missing(far), "0/0");
            check.due("15 no such part", x.missing(12, far, 0), 0);
            check.due("15 no such word", x.missing(12, 0, far), 0);
        }
        check.due("15 part 2", x.missing(12, 2, 0), 0);
        Desk y = Towns.town(10, 3);
        Towns.want(y, 0, 7, 0, 1);
        Towns.want(y, 1, 1_000_000);
        y.run();
        check.due("15 a part", y.missing(0), "1/3");
        check.due("15 no supporters", y.missing(1), "1000000/1");
        Desk none = new Desk();
        none.project(4, 9);
        check.due("15 no result yet", none.missing(4), "0/0");
        none.run();
        check.due("15 no voters", none.missing(4), "9/1");
    }

    private void promise16Served() {
        Desk x = Towns.emptied();
        int[] due = {3, 2, 0, 1, 0};
        for (int v = 0; v < due.length; v++) {
            check.due("16 served " + v, x.served(v), due[v]);
        }
        check.due("16 voter 48", x.served(48), 0);
        for (int far : FAR) {
            check.due("16 far", x.served(far), 0);
        }
        x.approve(2, 0, true);
        check.due("16 as it was then", x.served(2), 0);
    }

    /**
     * Spending in equal shares passes over no such group: as long as all of it are served by less than m, each has
     * enough left for its part of one more of the m. So 0 is due for every town, but not for towns that are like it.
     */
    private void promise17PassedOver() {
        Desk x = Towns.town(8, 8);
        Towns.want(x, 5, 3, 0, 1);
        check.due("17 run", x.run(), 0);
        check.due("17 two of eight for 3 of 8", x.passedOver(1), "0");
        x.project(5, 2);
        check.due("17 the cost as it was then", x.passedOver(1), "0");
        x.project(5, 3);
        x.budget(12);
        check.due("17 the budget as it was then", x.passedOver(1), "0");
        x.budget(8);
        x.approve(2, 5, true);
        check.due("17 approvals as they were then", x.passedOver(1), "0");
        for (int v = 2; v < 8; v++) {
            x.strike(v);
        }
        check.due("17 voters as they were then", x.passedOver(1), "0");
    }

    private void promise17PassedOverServed() {
        Desk x = Towns.town(40, 4);
        for (int p = 0; p < 4; p++) {
            Towns.want(x, p, 5, 0, 1);
        }
        Towns.want(x, 4, 20, 2);
        Towns.want(x, 9, 1, 3);
        check.due("17 run", x.run(), 5);
        check.due("17 served by four", x.served(0), 4);
        check.due("17 served by none", x.served(2), 0);
        for (int m = 1; m <= 4; m++) {
            check.due("17 served by m isn't less than m", x.passedOver(m), "0");
        }
        check.due("17 raised", x.raise(1, 9), "9");
        for (int m = 1; m <= 4; m++) {
            check.due("17 raised", x.passedOver(m), "0");
        }
    }

    private void promise17PassedOverWrong() {
        Desk x = new Desk();
        for (int m : new int[] {0, -1, 5, Integer.MIN_VALUE, Integer.MAX_VALUE}) {
            check.due("17 m " + m, x.passedOver(m), REFUSED);
        }
        for (int m = 1; m <= 4; m++) {
            check.due("17 no voter", x.passedOver(m), "0");
        }
        x.project(0, 1);
        x.run();
        check.due("17 no voter, a project", x.passedOver(1), "0");
    }

    private void promise18Receipt() {
        Desk x = Towns.uneven();
        check.due("18 emptied", x.receipt(0), "00 5;01 5;=0.");
        check.due("18 the rate", x.receipt(2), "01 7;=3.");
        check.due("18 another voter", x.receipt(1), "00 5;01 5;=0.");
        check.due("18 not there", x.receipt(4), "");
        check.due("18 behind the end", x.receipt(2, 8), -1);
        check.due("18 the end", x.receipt(2, 7), '.');
        for (int far : FAR) {
            check.due("18 far voter", x.receipt(far, 0), -1);
            check.due("18 far character", x.receipt(0, far), -1);
        }
        check.due("18 what it paid nothing for isn't told", Towns.emptied().receipt(0), "00 5;01 5;=0.");
        Desk y = Towns.town(12, 5);
        Towns.want(y, 11, 2, 0, 1, 2);
        Towns.want(y, 10, 3, 0, 1);
        y.run();
        check.due("18 fractions", y.receipt(0), "11 2/3;10 3/2;=7/30.");
        check.due("18 nothing paid", y.receipt(4), "=12/5.");
        y.budget(60);
        y.run();
        check.due("18 the next result", y.receipt(0), "11 2/3;10 3/2;=59/6.");
        y.raise(1, 2);
        check.due("18 the next result", y.receipt(0), "11 2/3;10 3/2;=71/6.");
    }

    private void promise18LongReceipt() {
        Desk x = Towns.primes();
        Reference.Fraction left = part(10_000_000, 47);
        StringBuilder text = new StringBuilder();
        for (int i = 0; i < 16; i++) {
            int p = x.chosen(i);
            text.append(p < 10 ? "0" : "").append(p).append(" 1/").append(Towns.COUNTS[p]).append(';');
            left = left.minus(part(1, Towns.COUNTS[p]));
        }
        text.append('=').append(left.words()).append('.');
        check.due("18 long", x.receipt(0), text.toString());
    }
}
