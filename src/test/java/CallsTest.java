/** An object is used for at most 512 calls: the last of them answers as the first would. */
public final class CallsTest {
    private final Check check = new Check();

    public static void main(String[] args) {
        CallsTest test = new CallsTest();
        test.lastCallEnters();
        test.lastCallRuns();
        test.lastCallReads();
        test.lastCallRefuses();
        test.fullTown();
        test.runsAlone();
        test.raisesAlone();
        test.receiptsAlone();
        test.objectsApart();
        test.check.end();
    }

    private interface Call {
        void make(SharesDesk x);
    }

    /** An object whose purses are 5, after so many calls in all: the rest are refused ones. */
    private static SharesDesk used(int calls) {
        SharesDesk x = new SharesDesk();
        x.budget(10);
        x.voter(0);
        x.voter(1);
        x.project(0, 3);
        x.approve(0, 0, true);
        x.run();
        Call[] refused = {y -> y.project(16, 1), y -> y.drop(5), y -> y.budget(0), y -> y.voter(0), y -> y.strike(7),
            y -> y.approve(7, 0, true), CallsTest::refusedRaise, CallsTest::refusedGroup};
        for (int i = 6; i < calls; i++) {
            refused[i % refused.length].make(x);
        }
        return x;
    }

    private static void refusedRaise(SharesDesk x) {
        try {
            x.raise(0, 0);
        } catch (IllegalArgumentException e) {
            return;
        }
    }

    private static void refusedGroup(SharesDesk x) {
        try {
            x.passedOver(0);
        } catch (IllegalArgumentException e) {
            return;
        }
    }

    private void lastCallEnters() {
        check.about("at most 512 calls: the last enters");
        check.due("project", used(511).project(15, 1_000_000), true);
        check.due("drop", used(511).drop(0), true);
        check.due("budget", used(511).budget(10_000_000), true);
        check.due("voter", used(511).voter(47), true);
        check.due("strike", used(511).strike(1), true);
        check.due("approve", used(511).approve(1, 0, true), true);
        SharesDesk x = used(510);
        check.due("the last but one", x.project(0, 6), true);
        check.due("the last", x.run(), 0);
    }

    private void lastCallRuns() {
        check.about("at most 512 calls: the last runs");
        check.due("run", used(511).run(), 1);
        check.due("raise", used(511).raise(100_000, 100), 100);
    }

    private void lastCallReads() {
        check.about("at most 512 calls: the last reads");
        check.due("chosen", used(511).chosen(0), 0);
        check.due("chosen", used(511).chosen(1), -1);
        check.due("spent", used(511).spent(), 3);
        check.due("purse", used(511).purse(0, 0, 0), 2);
        check.due("purse", used(511).purse(0, 1, 0), 1);
        check.due("paid", used(511).paid(0, 0, 0, 0), 3);
        check.due("rate", used(511).rate(0, 0, 0), 3);
        check.due("missing", used(511).missing(0, 1, 0), 0);
        check.due("served", used(511).served(0), 1);
        check.due("passedOver", used(511).passedOver(4), 0);
        check.due("receipt", used(511).receipt(0, 3), '3');
    }

    private void lastCallRefuses() {
        check.about("at most 512 calls: the last refuses");
        check.due("project", used(511).project(16, 1), false);
        check.due("voter", used(511).voter(1), false);
        check.due("raise", thrown(y -> y.raise(1, 101)), "IllegalArgumentException");
        check.due("passedOver", thrown(y -> y.passedOver(5)), "IllegalArgumentException");
    }

    private static String thrown(Call call) {
        try {
            call.make(used(511));
            return "nothing";
        } catch (RuntimeException e) {
            return e.getClass().getSimpleName();
        }
    }

    /** As many approvals as 512 calls leave room for, ahead of one raise and one answer. */
    private void fullTown() {
        check.about("at most 512 calls: as much as can be entered");
        SharesDesk x = new SharesDesk();
        x.budget(10_000_000);
        for (int v = 0; v < 48; v++) {
            x.voter(v);
        }
        for (int p = 0; p < 16; p++) {
            x.project(p, 480);
        }
        int calls = 1 + 48 + 16;
        for (int i = 0; calls < 510; i++) {
            x.approve(i % 48, i / 48, true);
            calls++;
        }
        check.due("raise", x.raise(100_000, 100), 100);
        check.due("the last call: what 48 paid in nine rounds, and 13 in a tenth", x.spent(), 4_800);
    }

    private void runsAlone() {
        check.about("at most 512 calls: all of them runs");
        SharesDesk x = used(6);
        for (int i = 6; i < 512; i++) {
            check.due("run " + i, x.run(), 1);
        }
    }

    /** Raises are the dearest calls: all that can be are played up to the last of their 100 steps. */
    private void raisesAlone() {
        check.about("at most 512 calls: all of them raises");
        SharesDesk x = new SharesDesk();
        x.budget(1);
        int calls = 1;
        for (int v = 0; v < 24; v++) {
            x.voter(v);
            calls++;
        }
        for (int p = 0; p < 16; p++) {
            x.project(p, 1_000_000);
            calls++;
            for (int v = 0; v < 12; v++) {
                x.approve((v + p) % 24, p, true);
                calls++;
            }
        }
        for (; calls < 512; calls++) {
            check.due("raise " + calls, x.raise(1, 100), 100);
        }
    }

    private void receiptsAlone() {
        check.about("at most 512 calls: all of them receipts");
        SharesDesk x = used(6);
        String text = "00 3;=2.";
        for (int i = 6; i < 512; i++) {
            int k = i % 10;
            int v = i % 3;
            int due = v == 0 ? charAt(text, k) : v == 1 ? charAt("=5.", k) : -1;
            check.due("receipt " + v + " " + k, x.receipt(v, k), due);
        }
    }

    private static int charAt(String text, int k) {
        return k < text.length() ? text.charAt(k) : -1;
    }

    private void objectsApart() {
        check.about("what one object was told another doesn't know");
        SharesDesk x = used(20);
        SharesDesk y = new SharesDesk();
        check.due("spent", y.spent(), 0);
        check.due("voter", y.voter(0), true);
        check.due("drop", y.drop(0), false);
        y.run();
        check.due("its own RESULT", x.purse(0, 0, 0), 2);
        check.due("its own RESULT", y.purse(0, 0, 0), 1);
    }
}
