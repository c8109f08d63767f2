import java.math.BigInteger;

/** Promises 10 to 18, fractions and receipts: each boundary that a sentence names, on both of its sides. */
public final class AnswersBoundariesTest {
    private static final int LOW = Integer.MIN_VALUE;
    private static final int HIGH = Integer.MAX_VALUE;
    private static final String REFUSED = "throws.IllegalArgumentException";
    private static final int[] NO_PROJECTS = {LOW, -32, -16, -1, 16, 17, 31, 32, 64, 256, 65_536, HIGH};
    private static final int[] NO_VOTERS = {LOW, -64, -48, -1, 48, 49, 63, 64, 65, 111, 128, 256, 65_536, HIGH};
    private static final int[] NO_PARTS = {LOW, LOW + 1, -2, -1, 2, 3, 16, 32, 1 << 16, HIGH};
    /** Some of them times 4, 8 or 32 would be 0 again. */
    private static final int[] NO_WORDS = {LOW, LOW + 1, -32, -4, -1, 5, 6, 7, 8, 16, 31, 32, 64, 1 << 16, 1 << 26,
        1 << 27, 1 << 29, 1 << 30, HIGH};
    private final Check check = new Check();

    public static void main(String[] args) {
        AnswersBoundariesTest test = new AnswersBoundariesTest();
        test.chosenRounds();
        test.spentNothingAndAll();
        test.lowestTerms();
        test.denominatorOfZero();
        test.wordOfSignBit();
        test.wordsOfLongFractions();
        test.wordsOfLongestFractions();
        test.purseNotThere();
        test.purseParts();
        test.paidNothing();
        test.paidNotThere();
        test.paidParts();
        test.rateNotChosen();
        test.rateParts();
        test.missingChosen();
        test.missingNotThere();
        test.missingLeastAndMost();
        test.missingParts();
        test.missingLong();
        test.servedNotThere();
        test.servedNoneAndAll();
        test.passedOverSizes();
        test.passedOverNoVoter();
        test.passedOverAtLeast();
        test.passedOverServedByLess();
        test.passedOverAsItWas();
        test.receiptCharacters();
        test.receiptNotThere();
        test.receiptPaidNothing();
        test.receiptOrder();
        test.receiptDigits();
        test.receiptDenominators();
        test.receiptLong();
        test.readingChangesNothing();
        test.check.end();
    }

    /** Both parts word by word, the words beyond, and the parts that aren't there. */
    private void words(String what, Desk.Words got, BigInteger top, BigInteger bottom) {
        for (int word = 0; word < 6; word++) {
            check.due(what + ", part 0, word " + word, got.at(0, word), top.shiftRight(32 * word).intValue());
            check.due(what + ", part 1, word " + word, got.at(1, word), bottom.shiftRight(32 * word).intValue());
        }
        for (int word : NO_WORDS) {
            check.due(what + ", part 0, no word " + word, got.at(0, word), 0);
            check.due(what + ", part 1, no word " + word, got.at(1, word), 0);
        }
        for (int part : NO_PARTS) {
            for (int word = -1; word < 5; word++) {
                check.due(what + ", no part " + part + ", word " + word, got.at(part, word), 0);
            }
            check.due(what + ", no part " + part + ", no word", got.at(part, HIGH), 0);
        }
    }

    private void words(String what, Desk.Words got, String fraction) {
        String[] parts = fraction.split("/");
        words(what, got, new BigInteger(parts[0]), new BigInteger(parts[1]));
    }

    private static Reference.Fraction part(int top, int bottom) {
        return new Reference.Fraction(BigInteger.valueOf(top), BigInteger.valueOf(bottom));
    }

    private void chosenRounds() {
        check.about("10: in round i (from 0 on); -1 when none was");
        for (int count = 0; count <= 16; count++) {
            Desk x = Towns.town(100, 1);
            for (int p = 0; p < 16; p++) {
                Towns.want(x, 15 - p, p < count ? 1 : 1_000, 0);
            }
            check.due("run", x.run(), count);
            for (int i = 0; i <= 20; i++) {
                check.due("round " + i + " of " + count, x.chosen(i), i < count ? 16 - count + i : -1);
            }
            for (int i : NO_PROJECTS) {
                check.due("round " + i + " of " + count, x.chosen(i), -1);
            }
        }
    }

    private void spentNothingAndAll() {
        check.about("11: The costs of all that was chosen, together");
        Desk x = new Desk();
        check.due("no RESULT", x.spent(), 0);
        Towns.found(x, 10_000_000, 1);
        for (int p = 0; p < 16; p++) {
            Towns.want(x, p, 1_000_000, 0);
        }
        check.due("not run", x.spent(), 0);
        check.due("run", x.run(), 10);
        check.due("the whole budget", x.spent(), 10_000_000);
        x.budget(9_999_999);
        check.due("run", x.run(), 9);
        check.due("one too few for the tenth", x.spent(), 9_000_000);
        x.budget(999_999);
        check.due("run", x.run(), 0);
        check.due("nothing", x.spent(), 0);
    }

    private void lowestTerms() {
        check.about("Terms: FRACTIONS are told in lowest terms");
        for (int n = 1; n <= 48; n++) {
            Desk x = Towns.town(48, n);
            x.run();
            check.due("48 by " + n, x.purse(0), part(48, n).words());
            x.budget(7_207_200);
            x.run();
            check.due("7207200 by " + n, x.purse(0), part(7_207_200, n).words());
        }
        Desk x = Towns.town(12, 4);
        Towns.want(x, 0, 2, 0, 1, 2, 3);
        Towns.want(x, 1, 10, 0, 1, 2, 3);
        Towns.want(x, 2, 5, 0, 1);
        x.run();
        check.due("2 by 4", x.rate(0), "1/2");
        check.due("2 by 4", x.paid(3, 0), "1/2");
        check.due("3 - 1/2", x.purse(3), "5/2");
        check.due("3 - 1/2 - 5/2", x.purse(0), "0/1");
        check.due("10 - 5/2 - 5/2", x.missing(1), "5/1");
    }

    private void denominatorOfZero() {
        check.about("Terms: denominator (part 1, 1 for 0)");
        Desk x = Towns.emptied();
        words("an empty purse", (part, word) -> x.purse(0, part, word), "0/1");
        words("nothing paid", (part, word) -> x.paid(0, 2, part, word), "0/1");
        Desk y = Towns.town(10, 3);
        Towns.want(y, 0, 10, 0, 1, 2);
        y.run();
        words("a purse of thirds, emptied", (part, word) -> y.purse(1, part, word), "0/1");
        words("paid", (part, word) -> y.paid(1, 0, part, word), "10/3");
    }

    /** 10000000/47 - 1/43 - 1/7: a numerator of all 32 bits, which is no second word. */
    private void wordOfSignBit() {
        check.about("Terms: each as WORDS of 32 bits, word 0 the lowest");
        Desk x = Towns.town(10_000_000, 47);
        Towns.wantFirst(x, 0, 1, 43);
        Towns.wantFirst(x, 1, 1, 7);
        x.run();
        words("32 bits", (part, word) -> x.purse(0, part, word), "3009997650/14147");
        check.due("its only word", x.purse(0, 0, 0), (int) 3_009_997_650L);
        check.due("no word 1", x.purse(0, 0, 1), 0);
        Towns.wantFirst(x, 2, 1, 3);
        x.run();
        words("34 bits", (part, word) -> x.purse(0, part, word), "9029978803/42441");
        check.due("word 0", x.purse(0, 0, 0), 9_029_978_803L - 2 * (1L << 32));
        check.due("word 1", x.purse(0, 0, 1), 2);
        check.due("no word 2", x.purse(0, 0, 2), 0);
    }

    private void wordsOfLongFractions() {
        check.about("Terms: words beyond are 0");
        Desk x = Towns.primes();
        Reference.Fraction left = part(10_000_000, 47);
        for (int count : Towns.COUNTS) {
            left = left.minus(part(1, count));
        }
        check.due("words of the numerator", (left.top().bitLength() + 31) / 32, 3);
        check.due("words of the denominator", (left.bottom().bitLength() + 31) / 32, 3);
        words("three words", (part, word) -> x.purse(0, part, word), left.top(), left.bottom());
    }

    private void wordsOfLongestFractions() {
        check.about("Terms: words beyond are 0, behind four words");
        Desk x = new Desk();
        Reference y = new Reference();
        Towns.longest(x);
        Towns.longest(y);
        int longest = 0;
        for (int v = 0; v < 47; v++) {
            int one = v;
            Reference.Fraction left = y.result.purses.get(v);
            longest = Math.max(longest, left.top().bitLength());
            words("purse " + v, (part, word) -> x.purse(one, part, word), left.top(), left.bottom());
        }
        check.due("bits", longest, 97);
        for (int p = 0; p < 16; p++) {
            int one = p;
            words("rate " + p, (part, word) -> x.rate(one, part, word), y.rate(p));
            words("paid " + p, (part, word) -> x.paid(45, one, part, word), y.paid(45, p));
        }
    }

    private void purseNotThere() {
        check.about("12: 0 when it was not there (as a voter of the RESULT)");
        Desk x = Towns.busy();
        check.due("there then, not now", x.purse(3), "3/1");
        check.due("there now, not then", x.purse(47), "0/0");
        check.due("never there", x.purse(4), "0/0");
        for (int v : NO_VOTERS) {
            check.due("voter " + v, x.purse(v), "0/0");
        }
        x.run();
        check.due("there then, not now", x.purse(3), "0/0");
        check.due("there now", x.purse(47), "13/4");
        Desk y = new Desk();
        y.voter(0);
        check.due("no RESULT", y.purse(0), "0/0");
        y.run();
        check.due("there", y.purse(0), "1/1");
    }

    private void purseParts() {
        check.about("12: or there is no such part or word");
        Desk x = Towns.town(14, 6);
        x.run();
        words("purse", (part, word) -> x.purse(5, part, word), "7/3");
        words("no purse", (part, word) -> x.purse(6, part, word), "0/0");
    }

    private void paidNothing() {
        check.about("13: as 0 when it paid nothing (also when p is no project)");
        Desk x = Towns.uneven();
        check.due("it paid", x.paid(0, 0), "5/1");
        check.due("it paid all it had", x.paid(0, 1), "5/1");
        check.due("it doesn't approve", x.paid(2, 0), "0/1");
        check.due("not chosen", x.paid(0, 12), "0/1");
        check.due("not there", x.paid(0, 2), "0/1");
        check.due("it approves, with an empty purse", Towns.emptied().paid(0, 2), "0/1");
        for (int p : NO_PROJECTS) {
            check.due("project " + p, x.paid(0, p), "0/1");
        }
        x.project(2, 1);
        x.approve(0, 2, true);
        check.due("there since", x.paid(0, 2), "0/1");
        x.drop(0);
        check.due("there then", x.paid(0, 0), "5/1");
        x.approve(0, 1, false);
        check.due("approving then", x.paid(0, 1), "5/1");
    }

    private void paidNotThere() {
        check.about("13: 0 as with purse(): not there");
        Desk x = Towns.busy();
        check.due("there then, not now", x.paid(3, 1), "7/1");
        check.due("there then, not now, nothing", x.paid(3, 0), "0/1");
        for (int p = -1; p <= 16; p++) {
            check.due("there now, not then", x.paid(47, p), "0/0");
            check.due("never there", x.paid(4, p), "0/0");
            for (int v : NO_VOTERS) {
                check.due("voter " + v, x.paid(v, p), "0/0");
            }
        }
        Desk y = Towns.town(1, 1);
        check.due("no RESULT", y.paid(0, 0), "0/0");
        y.run();
        check.due("there", y.paid(0, 0), "0/1");
    }

    private void paidParts() {
        check.about("13: 0 as with purse(): no such part or word");
        Desk x = Towns.primes();
        words("a part", (part, word) -> x.paid(0, 13, part, word), "1/32");
        words("nothing", (part, word) -> x.paid(46, 13, part, word), "0/1");
        words("no project", (part, word) -> x.paid(46, 16, part, word), "0/1");
        words("no voter", (part, word) -> x.paid(47, 13, part, word), "0/0");
    }

    private void rateNotChosen() {
        check.about("14: the rate of a project that was chosen. 0 when it wasn't");
        Desk x = Towns.uneven();
        check.due("chosen", x.rate(0), "5/1");
        check.due("chosen", x.rate(1), "7/1");
        check.due("not chosen", x.rate(12), "0/0");
        check.due("not there", x.rate(2), "0/0");
        for (int p : NO_PROJECTS) {
            check.due("project " + p, x.rate(p), "0/0");
        }
        x.drop(1);
        check.due("chosen then", x.rate(1), "7/1");
        x.run();
        check.due("not now", x.rate(1), "0/0");
        Desk y = Towns.town(1, 1);
        Towns.want(y, 0, 1, 0);
        check.due("no RESULT", y.rate(0), "0/0");
        y.run();
        check.due("run", y.rate(0), "1/1");
    }

    private void rateParts() {
        check.about("14: or there is no such part or word");
        Desk x = Towns.primes();
        words("rate", (part, word) -> x.rate(14, part, word), "1/27");
        words("no rate", (part, word) -> x.rate(16, part, word), "0/0");
        Desk y = Towns.uneven();
        words("not chosen", (part, word) -> y.rate(12, part, word), "0/0");
    }

    private void missingChosen() {
        check.about("15: 0 when it was chosen");
        Desk x = Towns.uneven();
        words("chosen", (part, word) -> x.missing(0, part, word), "0/0");
        words("chosen", (part, word) -> x.missing(1, part, word), "0/0");
        words("not chosen", (part, word) -> x.missing(12, part, word), "10/1");
        x.budget(1);
        check.due("chosen then", x.missing(1), "0/0");
        x.run();
        check.due("not now", x.missing(1), "23/1");
    }

    private void missingNotThere() {
        check.about("15: or not there");
        Desk x = Towns.busy();
        check.due("there then", x.missing(12), "10/1");
        check.due("there neither then nor now", x.missing(15), "0/0");
        check.due("never there, approved of", x.missing(7), "0/0");
        for (int p : NO_PROJECTS) {
            check.due("project " + p, x.missing(p), "0/0");
        }
        x.project(2, 9);
        check.due("there now, not then", x.missing(2), "0/0");
        x.drop(12);
        check.due("there then, not now", x.missing(12), "10/1");
        x.run();
        check.due("not there", x.missing(12), "0/0");
        check.due("there", x.missing(2), "9/1");
    }

    private void missingLeastAndMost() {
        check.about("15: how much the purses left of a project's supporters, together, are less than its cost");
        Desk x = Towns.town(47, 48);
        Towns.want(x, 0, 1, 0);
        Towns.want(x, 1, 1_000_000);
        x.run();
        check.due("as little as 1 of 48", x.missing(0), "1/48");
        check.due("all, nobody wants it", x.missing(1), "1000000/1");
        x.approve(1, 0, true);
        check.due("run", x.run(), 1);
        check.due("nothing, it is chosen", x.missing(0), "0/0");
        x.approve(0, 1, true);
        x.approve(1, 1, true);
        x.run();
        check.due("of purses left", x.missing(1), "23999977/24");
        Desk none = new Desk();
        none.project(4, 9);
        none.run();
        check.due("all, without voters", none.missing(4), "9/1");
    }

    private void missingParts() {
        check.about("15: or there is no such part or word");
        Desk x = Towns.town(10, 3);
        Towns.want(x, 0, 7, 0, 1);
        x.run();
        words("missing", (part, word) -> x.missing(0, part, word), "1/3");
        words("not there", (part, word) -> x.missing(1, part, word), "0/0");
    }

    /** Voter 0 pays a part of each of 15; what it and a voter who paid nothing have left is too little for the last. */
    private void missingLong() {
        check.about("15: A word of how much, of several");
        Desk x = Towns.town(10_000_000, 47);
        Reference.Fraction lack = part(1_000_000, 1).minus(part(10_000_000, 47)).minus(part(10_000_000, 47));
        for (int p = 0; p < 15; p++) {
            Towns.wantFirst(x, p, 1, Towns.COUNTS[p]);
            lack = lack.plus(part(1, Towns.COUNTS[p]));
        }
        Towns.want(x, 15, 1_000_000, 0, 46);
        check.due("run", x.run(), 15);
        check.due("words of the numerator", (lack.top().bitLength() + 31) / 32, 3);
        words("three words", (part, word) -> x.missing(15, part, word), lack.top(), lack.bottom());
    }

    private void servedNotThere() {
        check.about("16: 0 when it was not there");
        Desk x = Towns.busy();
        check.due("there then, not now", x.served(3), 1);
        check.due("there now, not then", x.served(47), 0);
        check.due("never there", x.served(4), 0);
        for (int v : NO_VOTERS) {
            check.due("voter " + v, x.served(v), 0);
        }
        x.run();
        check.due("there now", x.served(47), 1);
        check.due("not there now", x.served(3), 0);
    }

    private void servedNoneAndAll() {
        check.about("16: How many projects that were chosen a voter approves of");
        Desk x = Towns.town(32, 2);
        for (int p = 0; p < 16; p++) {
            Towns.want(x, p, 1, 0);
            check.due("not run, as before", x.served(0), p);
            x.run();
            check.due("all of " + (p + 1), x.served(0), p + 1);
            check.due("none of " + (p + 1), x.served(1), 0);
        }
        x.budget(30);
        x.run();
        check.due("one isn't chosen", x.served(0), 15);
        x.drop(0);
        x.run();
        check.due("one isn't there", x.served(0), 15);
        check.due("it paid nothing for the third", Towns.emptied().served(0), 3);
    }

    private void passedOverSizes() {
        check.about("17: IllegalArgumentException: m is not 1 .. 4");
        for (int m = 1; m <= 4; m++) {
            check.due("m " + m, Towns.busy().passedOver(m), "0");
        }
        String busy = Towns.busy().whole();
        String empty = new Desk().whole();
        for (int m : new int[] {LOW, LOW + 1, -4, -1, 0, 5, 6, 16, 17, 32, 33, 1 << 16, HIGH}) {
            Desk x = Towns.busy();
            check.due("m " + m, x.passedOver(m), REFUSED);
            check.same("m " + m + " changed something", x.whole(), busy);
            Desk y = new Desk();
            check.due("new, m " + m, y.passedOver(m), REFUSED);
            check.same("new, m " + m + " changed something", y.whole(), empty);
        }
    }

    private void passedOverNoVoter() {
        check.about("17: 0 when there is none, or no voter");
        Desk x = new Desk();
        for (int p = 0; p < 16; p++) {
            x.project(p, 1);
        }
        for (int m = 1; m <= 4; m++) {
            check.due("no RESULT, m " + m, x.passedOver(m), "0");
        }
        x.run();
        for (int m = 1; m <= 4; m++) {
            check.due("no voter, m " + m, x.passedOver(m), "0");
        }
        Desk y = Towns.town(10, 1);
        y.run();
        check.due("a voter, no project", y.passedOver(1), "0");
    }

    /**
     * Spending in equal shares passes over no such group: as long as all of it are served by less than m, each has
     * enough left for its part of one more of the m. So 0 is due on both sides of the boundary: on the one the group
     * is too small, on the other it is served.
     */
    private void passedOverAtLeast() {
        check.about("17: times BUDGET, are at least n times the costs of these m together");
        for (int m = 1; m <= 4; m++) {
            for (int group = 1; group <= 8; group++) {
                Desk x = Towns.town(8, 8);
                for (int p = 0; p < m; p++) {
                    Towns.wantFirst(x, 3 + p, 1, group);
                }
                x.run();
                check.due(group + " of 8 for " + m + ", served", x.served(0), Math.min(m, group));
                check.due(group + " of 8 for " + m, x.passedOver(m), "0");
            }
        }
    }

    private void passedOverServedByLess() {
        check.about("17: and are served() by less than m");
        Desk x = Towns.town(40, 4);
        for (int p = 0; p < 5; p++) {
            Towns.want(x, p, 4, 0, 1);
        }
        Towns.want(x, 9, 20, 2);
        x.run();
        check.due("served", x.served(0) + " " + x.served(2), "5 0");
        for (int m = 1; m <= 4; m++) {
            check.due("by m or more, m " + m, x.passedOver(m), "0");
        }
        check.due("raised", x.raise(1, 9), "9");
        for (int m = 1; m <= 4; m++) {
            check.due("raised, m " + m, x.passedOver(m), "0");
        }
    }

    /** Two of eight want what costs 3 of 8: no group. Each change would make it one, were the town looked at. */
    private void passedOverAsItWas() {
        check.about("17: in the RESULT (that were there)");
        Desk x = Towns.town(8, 8);
        Towns.want(x, 5, 3, 0, 1);
        check.due("run", x.run(), 0);
        check.due("no group", x.passedOver(1), "0");
        Desk cost = x.again();
        cost.project(5, 2);
        check.due("the cost then", cost.passedOver(1), "0");
        Desk budget = x.again();
        budget.budget(12);
        check.due("the BUDGET then", budget.passedOver(1), "0");
        Desk approval = x.again();
        approval.approve(2, 5, true);
        check.due("the approvals then", approval.passedOver(1), "0");
        Desk voters = x.again();
        voters.strike(6);
        voters.strike(7);
        voters.strike(5);
        check.due("the voters then", voters.passedOver(1), "0");
        Desk project = x.again();
        Towns.want(project, 6, 1, 0, 1);
        project.approve(0, 7, true);
        check.due("the projects then", project.passedOver(1), "0");
        Desk absent = Towns.town(8, 8);
        Towns.wantFirst(absent, 0, 1, 8);
        absent.drop(0);
        absent.run();
        check.due("approved of, but not there", absent.passedOver(1), "0");
    }

    private void receiptCharacters() {
        check.about("18: Character k (from 0 on) of a voter's receipt; -1 when there is none");
        Desk x = Towns.uneven();
        String text = "01 7;=3.";
        for (int k = 0; k < text.length(); k++) {
            check.due("character " + k, x.receipt(2, k), text.charAt(k));
        }
        for (int k = text.length(); k < text.length() + 20; k++) {
            check.due("character " + k, x.receipt(2, k), -1);
        }
        for (int k : new int[] {LOW, LOW + 1, -8, -2, -1, 1_000, 65_536, 1 << 16, HIGH}) {
            check.due("character " + k, x.receipt(2, k), -1);
        }
        check.due("a longer one", x.receipt(0), "00 5;01 5;=0.");
        check.due("behind a shorter one", x.receipt(2, 8), -1);
        check.due("within the longer one", x.receipt(0, 12), '.');
        check.due("behind the longer one", x.receipt(0, 13), -1);
    }

    private void receiptNotThere() {
        check.about("18: -1 when there is none: no such voter in the RESULT");
        Desk x = Towns.busy();
        check.due("there then, not now", x.receipt(3), "01 7;=3.");
        for (int k = -1; k < 10; k++) {
            check.due("there now, not then", x.receipt(47, k), -1);
            check.due("never there", x.receipt(4, k), -1);
            for (int v : NO_VOTERS) {
                check.due("voter " + v, x.receipt(v, k), -1);
            }
        }
        x.run();
        check.due("there now", x.receipt(47), "01 5;=13/4.");
        check.due("not there now", x.receipt(3), "");
        Desk y = Towns.town(1, 1);
        check.due("no RESULT", y.receipt(0, 0), -1);
        y.run();
        check.due("run", y.receipt(0), "=1.");
    }

    private void receiptPaidNothing() {
        check.about("Terms: for each project that it paid something for");
        Desk x = Towns.emptied();
        check.due("nothing for the third", x.receipt(0), "00 5;01 5;=0.");
        check.due("for the third alone", x.receipt(3), "02 10;=0.");
        check.due("for none", x.receipt(2), "=10.");
        Desk y = Towns.town(48, 48);
        Towns.wantFirst(y, 0, 1, 48);
        y.run();
        check.due("as little as it may be", y.receipt(47), "00 1/48;=47/48.");
        Desk z = Towns.town(48, 48);
        Towns.wantFirst(z, 0, 48, 48);
        z.run();
        check.due("all", z.receipt(47), "00 1;=0.");
    }

    private void receiptOrder() {
        check.about("Terms: in the order in which they were chosen");
        Desk x = Towns.town(100, 1);
        Towns.want(x, 0, 30, 0);
        Towns.want(x, 5, 10, 0);
        Towns.want(x, 10, 20, 0);
        Towns.want(x, 15, 5, 0);
        x.run();
        check.due("receipt", x.receipt(0), "15 5;05 10;10 20;00 30;=35.");
    }

    private void receiptDigits() {
        check.about("Terms: two digits of its number");
        String[] due = {"00", "01", "02", "03", "04", "05", "06", "07", "08", "09", "10", "11", "12", "13", "14", "15"};
        for (int p = 0; p < 16; p++) {
            Desk x = Towns.town(1, 1);
            Towns.want(x, p, 1, 0);
            x.run();
            check.due("project " + p, x.receipt(0), due[p] + " 1;=0.");
        }
        check.about("Terms: in decimal digits");
        for (int sum = 1; sum <= 1_000_000; sum *= 10) {
            Desk x = Towns.town(10_000_000, 1);
            Towns.want(x, 0, sum, 0);
            x.run();
            check.due("sum " + sum, x.receipt(0), "00 " + sum + ";=" + (10_000_000 - sum) + ".");
            x.budget(sum);
            x.run();
            check.due("all of " + sum, x.receipt(0), "00 " + sum + ";=0.");
        }
    }

    private void receiptDenominators() {
        check.about("Terms: or as numerator / denominator when that isn't 1");
        Desk x = Towns.town(12, 2);
        Towns.want(x, 0, 2, 0, 1);
        Towns.want(x, 1, 3, 0, 1);
        x.run();
        check.due("1, then 3/2", x.receipt(0), "00 1;01 3/2;=7/2.");
        Towns.want(x, 2, 5, 0, 1);
        x.run();
        check.due("halves make a whole", x.receipt(1), "00 1;01 3/2;02 5/2;=1.");
        x.project(1, 1);
        x.run();
        check.due("a half", x.receipt(1), "01 1/2;00 1;02 5/2;=2.");
        x.project(0, 6);
        x.run();
        check.due("nothing left", x.receipt(1), "01 1/2;02 5/2;00 3;=0.");
    }

    private void receiptLong() {
        check.about("Terms: RECEIPT of the longest numbers");
        Desk x = new Desk();
        Reference y = new Reference();
        Towns.longest(x);
        Towns.longest(y);
        int longest = 0;
        for (int v = 0; v < 47; v++) {
            check.due("voter " + v, x.receipt(v), y.receipt(v));
            longest = Math.max(longest, y.receipt(v).length());
            check.due("behind the end", x.receipt(v, y.receipt(v).length()), -1);
        }
        check.due("long enough to tell", longest > 300, true);
    }

    /** The same questions in another order, one kind between the others. */
    private void readingChangesNothing() {
        check.about("Terms: it stays as it is till the next one, whatever is asked");
        Desk x = Towns.uneven();
        String before = x.picture();
        check.due("receipt", x.receipt(2, 0), '0');
        check.due("missing", x.missing(12), "10/1");
        check.due("purse", x.purse(2), "3/1");
        check.due("receipt, further", x.receipt(2, 3), '7');
        check.due("another's receipt", x.receipt(0, 3), '5');
        check.due("rate", x.rate(1), "7/1");
        check.due("receipt, the end", x.receipt(2, 7), '.');
        check.due("paid", x.paid(3, 1), "7/1");
        check.due("passedOver", x.passedOver(4), "0");
        check.due("passedOver", x.passedOver(5), REFUSED);
        check.same("picture", x.picture(), before);
        check.same("picture", x.picture(), before);
    }
}
