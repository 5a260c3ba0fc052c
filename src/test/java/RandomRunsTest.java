import java.util.Random;

/**
 * Long runs of random calls, right and wrong ones, against a second model that
 * is written from the document's terms: by recursion for the sums, by going
 * through all rows of states for the best and the possible ones.
 */
public final class RandomRunsTest {
    private static final int RUNS = 600;
    private static final int CALLS = 512;
    /** More rows of states than this are not gone through one by one. */
    private static final long MOST_ROWS = 5000;

    private RandomRunsTest() {
    }

    public static void main(String[] args) {
        for (int run = 0; run < RUNS; run++) {
            new Run(run).go();
        }
        Check.end();
    }

    /** The document's terms, worked out anew for each question. */
    private static final class Second {
        int n = 1;
        int length = 0;
        double[] s = new double[6];
        double[][] m = new double[6][6];
        double[][] e = new double[6][4];
        final int[] symbols = new int[12];

        void states(int count) {
            n = count;
            length = 0;
            s = new double[6];
            m = new double[6][6];
            e = new double[6][4];
        }

        double forward(int t, int j, Double[][] known) {
            if (known[t][j] == null) {
                double sum = 0.0;
                for (int i = 0; t > 0 && i < n; i++) {
                    sum = sum + forward(t - 1, i, known) * m[i][j];
                }
                known[t][j] = (t == 0 ? s[j] : sum) * e[j][symbols[t]];
            }
            return known[t][j];
        }

        double backward(int t, int i, Double[][] known) {
            if (t == length - 1) {
                return 1.0;
            }
            if (known[t][i] == null) {
                double sum = 0.0;
                for (int j = 0; j < n; j++) {
                    sum = sum + (m[i][j] * e[j][symbols[t + 1]]) * backward(t + 1, j, known);
                }
                known[t][i] = sum;
            }
            return known[t][i];
        }

        double forward(int t, int j) {
            return forward(t, j, new Double[12][6]);
        }

        double backward(int t, int i) {
            return backward(t, i, new Double[12][6]);
        }

        double total() {
            if (length == 0) {
                return 1.0;
            }
            double sum = 0.0;
            for (int j = 0; j < n; j++) {
                sum = sum + forward(length - 1, j);
            }
            return sum;
        }

        double best(int t, int j, Double[][] known) {
            if (known[t][j] == null) {
                known[t][j] = t == 0
                    ? s[j] * e[j][symbols[0]]
                    : (best(t - 1, from(t, j, known), known) * m[from(t, j, known)][j]) * e[j][symbols[t]];
            }
            return known[t][j];
        }

        /** From the highest down, so that the lowest of those that tie is met last. */
        int from(int t, int j, Double[][] known) {
            int lowest = n - 1;
            for (int i = n - 2; i >= 0; i--) {
                if (best(t - 1, i, known) * m[i][j] >= best(t - 1, lowest, known) * m[lowest][j]) {
                    lowest = i;
                }
            }
            return lowest;
        }

        int[] bestRow() {
            Double[][] known = new Double[12][6];
            int[] states = new int[length];
            for (int t = length - 1; t >= 0; t--) {
                if (t < length - 1) {
                    states[t] = from(t + 1, states[t + 1], known);
                    continue;
                }
                states[t] = n - 1;
                for (int j = n - 2; j >= 0; j--) {
                    states[t] = best(t, j, known) >= best(t, states[t], known) ? j : states[t];
                }
            }
            return states;
        }

        double best() {
            if (length == 0) {
                return 1.0;
            }
            return best(length - 1, bestRow()[length - 1], new Double[12][6]);
        }

        boolean rowsAreFew() {
            long rows = 1;
            for (int t = 0; t < length; t++) {
                rows *= n;
            }
            return rows <= MOST_ROWS;
        }

        long possible(int t, int before) {
            if (t == length) {
                return 1;
            }
            long count = 0;
            for (int j = 0; j < n; j++) {
                boolean reached = t == 0 ? s[j] > 0 : m[before][j] > 0;
                if (reached && e[j][symbols[t]] > 0) {
                    count += possible(t + 1, j);
                }
            }
            return count;
        }

        /** Rounding keeps order, so the greatest product of a whole row is the best to the last bit. */
        double greatestRow(int t, int before, double product) {
            if (t == length) {
                return product;
            }
            double greatest = 0.0;
            for (int j = 0; j < n; j++) {
                double next = (t == 0 ? s[j] : product * m[before][j]) * e[j][symbols[t]];
                greatest = Math.max(greatest, greatestRow(t + 1, j, next));
            }
            return greatest;
        }

        double sumOfRows(int t, int before, double product) {
            if (t == length) {
                return product;
            }
            double sum = 0.0;
            for (int j = 0; j < n; j++) {
                sum += sumOfRows(t + 1, j, (t == 0 ? s[j] : product * m[before][j]) * e[j][symbols[t]]);
            }
            return sum;
        }
    }

    private static final class Run {
        private final int number;
        private final Random random;
        private final int kindOfWeights;
        private final PathOdds x = new PathOdds();
        private final Second second = new Second();

        Run(int number) {
            this.number = number;
            this.random = new Random(number);
            this.kindOfWeights = number % 5;
        }

        void go() {
            int calls = 0;
            while (calls < CALLS) {
                int kind = random.nextInt(100);
                if (kind < 1) {
                    callStates();
                } else if (kind < 45) {
                    callWeights(random.nextInt(3));
                } else if (kind < 60) {
                    callRow();
                } else {
                    callQuestion(random.nextInt(9));
                }
                calls++;
            }
        }

        private String told(String call) {
            return "run " + number + ": " + call;
        }

        private int around(int below) {
            int kind = random.nextInt(40);
            if (kind == 0) {
                return random.nextInt();
            }
            return kind < 3 ? random.nextInt(below + 4) - 2 : random.nextInt(below);
        }

        private double weight() {
            int odd = random.nextInt(40);
            if (odd == 0) {
                double[] wrong = {Double.NaN, -1e-300, Math.nextUp(1.0), 1.5, -0.5, Double.POSITIVE_INFINITY};
                return wrong[random.nextInt(wrong.length)];
            }
            if (odd < 6) {
                return odd == 1 ? -0.0 : odd < 4 ? 0.0 : 1.0;
            }
            switch (kindOfWeights) {
                case 0: return random.nextInt(11) / 10.0;
                case 1: return random.nextDouble();
                case 2: return random.nextInt(5) / 4.0;
                case 3: return Math.pow(10, -random.nextInt(60));
                default: return random.nextInt(2) == 0 ? random.nextDouble() * 1e-300 : Double.MIN_VALUE;
            }
        }

        private boolean isState(int i) {
            return 0 <= i && i < second.n;
        }

        private void callStates() {
            int n = random.nextInt(4) == 0 ? random.nextInt(20) - 10 : 1 + random.nextInt(6);
            boolean due = 1 <= n && n <= 6;
            if (due) {
                second.states(n);
            }
            Check.that(told("states(" + n + ")"), x.states(n) == due);
        }

        private void callWeights(int which) {
            int i = around(second.n);
            int j = around(second.n);
            int s = around(4);
            double w = weight();
            boolean right = w >= 0 && w <= 1 && isState(i);
            if (which == 0) {
                if (right) {
                    second.s[i] = w;
                }
                Check.that(told("start(" + i + ", " + w + ")"), x.start(i, w) == right);
            } else if (which == 1) {
                right = right && isState(j);
                if (right) {
                    second.m[i][j] = w;
                }
                Check.that(told("move(" + i + ", " + j + ", " + w + ")"), x.move(i, j, w) == right);
            } else {
                right = right && 0 <= s && s < 4;
                if (right) {
                    second.e[i][s] = w;
                }
                Check.that(told("show(" + i + ", " + s + ", " + w + ")"), x.show(i, s, w) == right);
            }
        }

        private void callRow() {
            if (random.nextInt(3) == 0) {
                boolean due = second.length > 0;
                second.length -= due ? 1 : 0;
                Check.that(told("unread()"), x.unread() == due);
                return;
            }
            int s = around(4);
            boolean due = 0 <= s && s < 4 && second.length < 12;
            if (due) {
                second.symbols[second.length] = s;
                second.length++;
            }
            Check.that(told("read(" + s + ")"), x.read(s) == due);
        }

        private void callQuestion(int which) {
            switch (which) {
                case 0: Check.same(told("size()"), x.size(), second.n); break;
                case 1: Check.same(told("length()"), x.length(), second.length); break;
                case 2: askTotal(); break;
                case 3: askBest(); break;
                case 4: askBestState(around(second.length + 1)); break;
                case 5: askPossible(); break;
                default: askPlace(which, around(second.length + 1), around(second.n));
            }
        }

        private void askTotal() {
            double got = x.total();
            Check.sameBits(told("total()"), got, second.total());
            if (second.rowsAreFew()) {
                Check.near(told("total()"), got, second.sumOfRows(0, 0, 1.0));
            }
        }

        private void askBest() {
            double got = x.best();
            Check.same(told("best()"), got, second.best());
            if (second.rowsAreFew()) {
                Check.same(told("best()"), got, second.greatestRow(0, 0, 1.0));
            }
        }

        private void askBestState(int t) {
            boolean right = 0 <= t && t < second.length;
            Check.same(told("bestState(" + t + ")"), x.bestState(t), right ? second.bestRow()[t] : -1);
        }

        private void askPossible() {
            if (second.rowsAreFew()) {
                Check.same(told("possible()"), x.possible(), second.possible(0, 0));
            }
        }

        private void askPlace(int which, int t, int i) {
            String call = told((which == 6 ? "forward(" : which == 7 ? "backward(" : "share(") + t + ", " + i + ")");
            Check.Call asked = which == 6
                ? () -> x.forward(t, i)
                : which == 7 ? () -> x.backward(t, i) : () -> x.share(t, i);
            if (t < 0 || t >= second.length) {
                Check.throwsExactly(call, IndexOutOfBoundsException.class, asked);
            } else if (!isState(i)) {
                Check.throwsExactly(call, IllegalArgumentException.class, asked);
            } else if (which == 6) {
                Check.sameBits(call, asked.answer(), second.forward(t, i));
            } else if (which == 7) {
                Check.sameBits(call, asked.answer(), second.backward(t, i));
            } else if (second.total() == 0) {
                Check.throwsExactly(call, ArithmeticException.class, asked);
            } else {
                Check.sameBits(call, asked.answer(), (second.forward(t, i) * second.backward(t, i)) / second.total());
            }
        }
    }
}
