/** Counts answers that are not as due, and ends a test with exit code 1 if there was one. */
final class Check {
    private static final int MOST_PRINTED = 40;
    private String sentence = "";
    private int done;
    private int wrong;

    /** The promise and the words of the document that the answers to come are held against. */
    void about(String words) {
        sentence = words + " | ";
    }

    void due(String what, long got, long want) {
        due(what, String.valueOf(got), String.valueOf(want));
    }

    void due(String what, boolean got, boolean want) {
        due(what, String.valueOf(got), String.valueOf(want));
    }

    void due(String what, String got, String want) {
        done++;
        if (!got.equals(want)) {
            tell(what, got, want);
        }
    }

    /** Of two texts of several lines the first line that differs is told. */
    void same(String what, String got, String want) {
        done++;
        if (got.equals(want)) {
            return;
        }
        String[] gotLines = got.split("\n");
        String[] wantLines = want.split("\n");
        int i = 0;
        while (i < gotLines.length - 1 && i < wantLines.length - 1 && gotLines[i].equals(wantLines[i])) {
            i++;
        }
        tell(what + ", line " + i, gotLines[i], wantLines[i]);
    }

    private void tell(String what, String got, String want) {
        wrong++;
        if (wrong <= MOST_PRINTED) {
            System.out.println(sentence + what + " answered " + got + ", due is " + want);
        }
    }

    void end() {
        String asDue = done + " answers are as due";
        System.out.println(wrong == 0 ? asDue : wrong + " of " + done + " answers are not as due");
        if (wrong != 0) {
            System.exit(1);
        }
    }
}
