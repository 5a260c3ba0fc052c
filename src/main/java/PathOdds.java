/**
 * A model with hidden states that shows symbols, and what can be said of a row
 * of symbols that it showed. The promises in the comments are those of the
 * document (DOC.md).
 */
public final class PathOdds {
    private static final int MOST_STATES = 6;
    private static final int SYMBOLS = 4;
    private static final int LONGEST_ROW = 12;

    private final double[] startWeights;
    private final double[][] moveWeights;
    private final double[][] showWeights;
    private final int[] row;
    private int stateCount;
    private int rowLength;

    // Work tables, by place and state. Each question fills the one it needs
    // anew, so that no answer can be older than the weights and the row; they
    // are made once because all that a run makes is counted.
    private final double[][] forwardOdds;
    private final double[][] backwardOdds;
    private final double[][] bestOdds;
    private final int[][] bestFrom;
    private final long[][] wayCounts;

    /** Promise 1. */
    public PathOdds() {
        startWeights = new double[MOST_STATES];
        moveWeights = new double[MOST_STATES][MOST_STATES];
        showWeights = new double[MOST_STATES][SYMBOLS];
        row = new int[LONGEST_ROW];
        stateCount = 1;
        rowLength = 0;
        forwardOdds = new double[LONGEST_ROW][MOST_STATES];
        backwardOdds = new double[LONGEST_ROW][MOST_STATES];
        bestOdds = new double[LONGEST_ROW][MOST_STATES];
        bestFrom = new int[LONGEST_ROW][MOST_STATES];
        wayCounts = new long[LONGEST_ROW][MOST_STATES];
    }

    /** Promise 2. */
    public boolean states(int n) {
        if (n < 1 || n > MOST_STATES) {
            return false;
        }
        clearWeights();
        stateCount = n;
        rowLength = 0;
        return true;
    }

    /** Promise 3. */
    public int size() {
        return stateCount;
    }

    /** Promise 4. */
    public boolean start(int i, double w) {
        if (!isState(i) || !isWeight(w)) {
            return false;
        }
        startWeights[i] = w;
        return true;
    }

    /** Promise 5. */
    public boolean move(int i, int j, double w) {
        if (!isState(i) || !isState(j) || !isWeight(w)) {
            return false;
        }
        moveWeights[i][j] = w;
        return true;
    }

    /** Promise 6. */
    public boolean show(int i, int s, double w) {
        if (!isState(i) || !isSymbol(s) || !isWeight(w)) {
            return false;
        }
        showWeights[i][s] = w;
        return true;
    }

    /** Promise 7. */
    public boolean read(int s) {
        if (!isSymbol(s) || rowLength >= LONGEST_ROW) {
            return false;
        }
        row[rowLength] = s;
        rowLength++;
        return true;
    }

    /** Promise 8. */
    public boolean unread() {
        if (rowLength == 0) {
            return false;
        }
        rowLength--;
        return true;
    }

    /** Promise 9. */
    public int length() {
        return rowLength;
    }

    /** Promise 10. */
    public double forward(int t, int i) throws IndexOutOfBoundsException, IllegalArgumentException {
        refuseWrongPlaceOrState(t, i);
        fillForward();
        return forwardOdds[t][i];
    }

    /** Promise 11. */
    public double backward(int t, int i) throws IndexOutOfBoundsException, IllegalArgumentException {
        refuseWrongPlaceOrState(t, i);
        fillBackward();
        return backwardOdds[t][i];
    }

    /** Promise 12. */
    public double total() {
        if (rowLength == 0) {
            return 1.0;
        }
        fillForward();
        return sumOfLastForward();
    }

    /** Promise 13. */
    public double best() {
        if (rowLength == 0) {
            return 1.0;
        }
        fillBest();
        return bestOdds[rowLength - 1][lastBestState()];
    }

    /** Promise 14. */
    public int bestState(int t) {
        if (!isPlace(t)) {
            return -1;
        }
        fillBest();
        int state = lastBestState();
        for (int later = rowLength - 1; later > t; later--) {
            state = bestFrom[later][state];
        }
        return state;
    }

    /** Promise 15. */
    public double share(int t, int i)
            throws IndexOutOfBoundsException, IllegalArgumentException, ArithmeticException {
        refuseWrongPlaceOrState(t, i);
        fillForward();
        double all = sumOfLastForward();
        if (all == 0.0) {
            throw new ArithmeticException("the total is 0");
        }
        fillBackward();
        return (forwardOdds[t][i] * backwardOdds[t][i]) / all;
    }

    /** Promise 16. */
    public long possible() {
        if (rowLength == 0) {
            return 1L;
        }
        fillWayCounts();
        long sum = 0L;
        for (int j = 0; j < stateCount; j++) {
            sum += wayCounts[rowLength - 1][j];
        }
        return sum;
    }

    private boolean isState(int i) {
        return i >= 0 && i < stateCount;
    }

    private boolean isPlace(int t) {
        return t >= 0 && t < rowLength;
    }

    private static boolean isSymbol(int s) {
        return s >= 0 && s < SYMBOLS;
    }

    // Asked this way round, and not as "w < 0 or w > 1", so that NaN is no weight.
    private static boolean isWeight(double w) {
        return w >= 0.0 && w <= 1.0;
    }

    private void refuseWrongPlaceOrState(int t, int i) {
        if (!isPlace(t)) {
            throw new IndexOutOfBoundsException("no such place in the row");
        }
        if (!isState(i)) {
            throw new IllegalArgumentException("no such state");
        }
    }

    private void clearWeights() {
        for (int i = 0; i < MOST_STATES; i++) {
            startWeights[i] = 0.0;
            for (int j = 0; j < MOST_STATES; j++) {
                moveWeights[i][j] = 0.0;
            }
            for (int s = 0; s < SYMBOLS; s++) {
                showWeights[i][s] = 0.0;
            }
        }
    }

    private void fillForward() {
        for (int t = 0; t < rowLength; t++) {
            int symbol = row[t];
            for (int j = 0; j < stateCount; j++) {
                forwardOdds[t][j] = forwardInto(t, j) * showWeights[j][symbol];
            }
        }
    }

    private double forwardInto(int t, int j) {
        if (t == 0) {
            return startWeights[j];
        }
        double sum = 0.0;
        for (int i = 0; i < stateCount; i++) {
            sum += forwardOdds[t - 1][i] * moveWeights[i][j];
        }
        return sum;
    }

    private double sumOfLastForward() {
        double sum = 0.0;
        for (int j = 0; j < stateCount; j++) {
            sum += forwardOdds[rowLength - 1][j];
        }
        return sum;
    }

    private void fillBackward() {
        for (int t = rowLength - 1; t >= 0; t--) {
            for (int i = 0; i < stateCount; i++) {
                backwardOdds[t][i] = backwardFrom(t, i);
            }
        }
    }

    private double backwardFrom(int t, int i) {
        if (t == rowLength - 1) {
            return 1.0;
        }
        int symbol = row[t + 1];
        double sum = 0.0;
        for (int j = 0; j < stateCount; j++) {
            sum += moveWeights[i][j] * showWeights[j][symbol] * backwardOdds[t + 1][j];
        }
        return sum;
    }

    private void fillBest() {
        for (int t = 0; t < rowLength; t++) {
            int symbol = row[t];
            for (int j = 0; j < stateCount; j++) {
                bestOdds[t][j] = bestInto(t, j) * showWeights[j][symbol];
            }
        }
    }

    // Notes from(t, j) by the way. It is chosen before the symbol's weight
    // comes in, so a weight of 0 there does not change which state it is.
    private double bestInto(int t, int j) {
        if (t == 0) {
            return startWeights[j];
        }
        int from = 0;
        double greatest = bestOdds[t - 1][0] * moveWeights[0][j];
        for (int i = 1; i < stateCount; i++) {
            double product = bestOdds[t - 1][i] * moveWeights[i][j];
            if (product > greatest) {
                greatest = product;
                from = i;
            }
        }
        bestFrom[t][j] = from;
        return greatest;
    }

    private int lastBestState() {
        int state = 0;
        for (int j = 1; j < stateCount; j++) {
            if (bestOdds[rowLength - 1][j] > bestOdds[rowLength - 1][state]) {
                state = j;
            }
        }
        return state;
    }

    // Counts by asking each weight by itself: products of weights above 0 may
    // come out as 0, and such rows are possible all the same.
    private void fillWayCounts() {
        for (int t = 0; t < rowLength; t++) {
            int symbol = row[t];
            for (int j = 0; j < stateCount; j++) {
                wayCounts[t][j] = showWeights[j][symbol] > 0.0 ? waysInto(t, j) : 0L;
            }
        }
    }

    private long waysInto(int t, int j) {
        if (t == 0) {
            return startWeights[j] > 0.0 ? 1L : 0L;
        }
        long sum = 0L;
        for (int i = 0; i < stateCount; i++) {
            if (moveWeights[i][j] > 0.0) {
                sum += wayCounts[t - 1][i];
            }
        }
        return sum;
    }
}
