/** What can be asked of a town, with fractions and receipts as whole texts: of the program and of the reference. */
interface Answers {
    boolean project(int p, int cost);

    boolean drop(int p);

    boolean budget(int amount);

    boolean voter(int v);

    boolean strike(int v);

    boolean approve(int v, int p, boolean yes);

    int run();

    /** The number of steps, or "throws." with the exception's name. */
    String raise(int step, int most);

    int chosen(int i);

    int spent();

    /** A fraction is "numerator/denominator", "0/0" when both are answered by 0. */
    String purse(int v);

    String paid(int v, int p);

    String rate(int p);

    String missing(int p);

    int served(int v);

    /** The set's number, or "throws." with the exception's name. */
    String passedOver(int m);

    /** Empty when there is none. */
    String receipt(int v);

    /** All that the RESULT tells, a line for each project and voter, and for those just beyond. */
    default String picture() {
        StringBuilder text = new StringBuilder("spent " + spent() + "\n");
        for (int p = -1; p <= 16; p++) {
            text.append("round ").append(p).append(": ").append(chosen(p));
            text.append(", project ").append(p).append(": rate ").append(rate(p));
            text.append(", missing ").append(missing(p)).append('\n');
        }
        for (int v = -1; v <= 48; v++) {
            text.append("voter ").append(v).append(": purse ").append(purse(v)).append(", served ").append(served(v));
            text.append(", receipt ").append(receipt(v)).append(", paid");
            for (int p = -1; p <= 16; p++) {
                text.append(' ').append(paid(v, p));
            }
            text.append('\n');
        }
        for (int m = 1; m <= 4; m++) {
            text.append("passed over, ").append(m).append(": ").append(passedOver(m)).append('\n');
        }
        return text.toString();
    }
}
