import java.util.List;

/** One method for each sentence of the document's "Terms" that names a boundary case. */
public final class TermsTest {
    /** No states and no symbols; some have the low bits of one, or become one by an overflow. */
    private static final int[] FAR = {
        Integer.MIN_VALUE, Integer.MIN_VALUE + 1, -65536, -256, -6, -2, -1,
        12, 64, 256, 257, 65536, 1 << 30, Integer.MAX_VALUE
    };

    private TermsTest() {
    }

    public static void main(String[] args) {
        Check.sentence("Terms: \"STATES are 0 .. n - 1, n from 1 to 6\"", TermsTest::states);
        Check.sentence("Terms: \"SYMBOLS 0 .. 3.\"", TermsTest::symbols);
        Check.sentence("Terms: \"WEIGHTS are doubles from 0 to 1\"", TermsTest::weights);
        Check.sentence("Terms: \"all 0 at first\"", TermsTest::allZeroAtFirst);
        Check.sentence("Terms: \"The ROW has at most 12 symbols\"", TermsTest::atMostTwelveSymbols);
        Check.sentence("Terms: \"symbol t is the t-th (0 the first); its length is T.\"", TermsTest::symbolAndLength);
        Check.sentence("Terms: \"a SUM begins with 0.0 and adds its terms one by one, the lowest state first\"",
            TermsTest::sums);
        Check.sentence("Terms: \"a product of three is worked out from the left\"", TermsTest::productsOfThree);
        Check.sentence("Terms: \"A(0, j) = S(j) * E(j, symbol 0)\"", TermsTest::forwardBegins);
        Check.sentence("Terms: \"B(T - 1, i) = 1.0\"", TermsTest::backwardBegins);
        Check.sentence("Terms: \"TOTAL: .. It is 1.0 for T = 0.\"", TermsTest::totalOfNoSymbols);
        Check.sentence("Terms: \"V(0, j) = S(j) * E(j, symbol 0)\"", TermsTest::bestBegins);
        Check.sentence("Terms: \"from(t, j) is the lowest i with that greatest\"", TermsTest::lowestFrom);
        Check.sentence("Terms: \"The best row of states ends in the lowest j with the greatest V(T - 1, j)\"",
            TermsTest::lowestEnd);
        Check.sentence("Terms: \"each state before a state j at t is from(t, j)\"", TermsTest::stateBefore);
        Check.sentence("Terms: \"the weights of beginning, of going on T - 1 times and of showing the T symbols\"",
            TermsTest::possibleRows);
        Check.sentence("Terms: \"are all above 0 (so also where their product comes out as 0)\"",
            TermsTest::possibleWhereTheProductIsZero);
        Check.sentence("Terms: \"A call that is refused changes nothing.\"", TermsTest::refusedCalls);
        Check.sentence("Terms: \"What is told is always that of the present weights and row.\"", TermsTest::present);
        Check.end();
    }

    private static void states() {
        for (int n = 1; n <= 6; n++) {
            PathOdds x = new PathOdds();
            x.states(6);
            Check.that("states(" + n + ")", x.states(n));
            for (int i = 0; i < n; i++) {
                stateIsTaken(x, i);
            }
            x.read(0);
            stateIsRefused(x, n);
            for (int i : FAR) {
                stateIsRefused(x, i);
            }
            for (int i = 0; i < n; i++) {
                Check.same("forward(0, " + i + ")", x.forward(0, i), 1.0);
                Check.same("backward(0, " + i + ")", x.backward(0, i), 1.0);
                Check.same("share(0, " + i + ")", x.share(0, i), 1.0 / n);
            }
        }
        PathOdds x = new PathOdds();
        Check.that("states(0) is refused", !x.states(0));
        Check.that("states(7) is refused", !x.states(7));
        for (int n : FAR) {
            Check.that("states(" + n + ") is refused", !x.states(n));
        }
        Check.same("size()", x.size(), 1);
    }

    private static void stateIsTaken(PathOdds x, int i) {
        Check.that("start(" + i + ", 1)", x.start(i, 1.0));
        Check.that("move(" + i + ", 0, 1)", x.move(i, 0, 1.0));
        Check.that("move(0, " + i + ", 1)", x.move(0, i, 1.0));
        Check.that("show(" + i + ", 0, 1)", x.show(i, 0, 1.0));
    }

    private static void stateIsRefused(PathOdds x, int i) {
        Check.that("start(" + i + ", 1) is refused", !x.start(i, 1.0));
        Check.that("move(" + i + ", 0, 1) is refused", !x.move(i, 0, 1.0));
        Check.that("move(0, " + i + ", 1) is refused", !x.move(0, i, 1.0));
        Check.that("show(" + i + ", 0, 1) is refused", !x.show(i, 0, 1.0));
        Check.throwsExactly("forward(0, " + i + ")", IllegalArgumentException.class, () -> x.forward(0, i));
        Check.throwsExactly("backward(0, " + i + ")", IllegalArgumentException.class, () -> x.backward(0, i));
        Check.throwsExactly("share(0, " + i + ")", IllegalArgumentException.class, () -> x.share(0, i));
    }

    private static void symbols() {
        PathOdds x = Models.even(1, 1.0);
        for (int s = 0; s <= 3; s++) {
            Check.that("show(0, " + s + ", ..)", x.show(0, s, 0.5 + s * 0.125));
            Check.that("read(" + s + ")", x.read(s));
            Check.same("the symbol read is " + s, x.total(), 0.5 + s * 0.125);
            x.unread();
        }
        Check.that("show(0, 4, 1) is refused", !x.show(0, 4, 1.0));
        Check.that("read(4) is refused", !x.read(4));
        for (int s : FAR) {
            Check.that("show(0, " + s + ", 1) is refused", !x.show(0, s, 1.0));
            Check.that("read(" + s + ") is refused", !x.read(s));
        }
        Check.same("length()", x.length(), 0);
    }

    private static void weights() {
        double[] right = {0.0, -0.0, Double.MIN_VALUE, Double.MIN_NORMAL, 1.0 / 3, Math.nextDown(1.0), 1.0};
        double[] wrong = {
            -Double.MIN_VALUE, -Double.MIN_NORMAL, -1.0, -Double.MAX_VALUE, Double.NEGATIVE_INFINITY,
            Math.nextUp(1.0), 2.0, Double.MAX_VALUE, Double.POSITIVE_INFINITY, Double.NaN
        };
        for (double w : right) {
            PathOdds x = Models.even(1, 1.0);
            x.read(0);
            Check.that("start(0, " + w + ")", x.start(0, w));
            Check.sameBits("S(0)", x.forward(0, 0), w);
            x.start(0, 1.0);
            Check.that("show(0, 0, " + w + ")", x.show(0, 0, w));
            Check.sameBits("E(0, 0)", x.forward(0, 0), w);
            x.show(0, 0, 1.0);
            x.read(0);
            Check.that("move(0, 0, " + w + ")", x.move(0, 0, w));
            Check.same("M(0, 0)", x.forward(1, 0), w);
        }
        for (double w : wrong) {
            PathOdds x = Models.even(1, 0.5);
            Check.that("start(0, " + w + ") is refused", !x.start(0, w));
            Check.that("move(0, 0, " + w + ") is refused", !x.move(0, 0, w));
            Check.that("show(0, 0, " + w + ") is refused", !x.show(0, 0, w));
            Models.readAll(x, 0, 0);
            Check.same("weights of a half", x.total(), 0.0625);
        }
    }

    private static void allZeroAtFirst() {
        for (int s = 0; s < 4; s++) {
            PathOdds noStart = new PathOdds();
            noStart.show(0, s, 1.0);
            noStart.read(s);
            Check.sameBits("S(0)", noStart.forward(0, 0), 0.0);
            PathOdds noShow = new PathOdds();
            noShow.start(0, 1.0);
            noShow.read(s);
            Check.sameBits("E(0, " + s + ")", noShow.forward(0, 0), 0.0);
            Check.same("possible() without E(0, " + s + ")", noShow.possible(), 0);
        }
        PathOdds noMove = new PathOdds();
        noMove.start(0, 1.0);
        noMove.show(0, 0, 1.0);
        Models.readAll(noMove, 0, 0);
        Check.same("total() without M(0, 0)", noMove.total(), 0.0);
        Check.sameBits("B(0, 0) without M(0, 0)", noMove.backward(0, 0), 0.0);
        Check.same("possible() without M(0, 0)", noMove.possible(), 0);
    }

    private static void atMostTwelveSymbols() {
        PathOdds x = Models.rich();
        Models.readAll(x, 3, 2, 1, 0, 0, 2, 1);
        List<String> full = Told.by(x);
        for (int s = 0; s < 4; s++) {
            Check.that("read(" + s + ") behind 12 is refused", !x.read(s));
        }
        Check.same("length()", x.length(), 12);
        Check.that("the full row is as it was", Told.by(x).equals(full));
        x.unread();
        Check.that("the 12th again", x.read(1));
        Check.that("a 13th again is refused", !x.read(3));
        Check.that("the full row is as it was, read again", Told.by(x).equals(full));
        x.states(2);
        for (int t = 0; t < 12; t++) {
            Check.that("read after states, at " + t, x.read(0));
        }
        Check.that("a 13th after states is refused", !x.read(0));
    }

    private static void symbolAndLength() {
        int[] symbols = {3, 0, 2, 1, 1, 2, 0, 3, 2, 3, 1, 0};
        double[] shown = {0.5, 0.25, 0.125, 1.0};
        PathOdds x = Models.even(1, 1.0);
        for (int s = 0; s < 4; s++) {
            x.show(0, s, shown[s]);
        }
        Check.same("length() of no symbols", x.length(), 0);
        double product = 1.0;
        for (int t = 0; t < 12; t++) {
            x.read(symbols[t]);
            product = product * shown[symbols[t]];
            Check.same("length()", x.length(), t + 1);
            Check.same("A(" + t + ", 0)", x.forward(t, 0), product);
        }
        double rest = 1.0;
        for (int t = 11; t >= 0; t--) {
            Check.same("B(" + t + ", 0)", x.backward(t, 0), rest);
            rest = rest * shown[symbols[t]];
        }
    }

    private static void sums() {
        double[] terms = {1.0, 0x1p-53, 0x1p-53, 0x1p-53, 0x1p-53, 0x1p-53};
        double back = 0.0;
        for (int i = 5; i >= 0; i--) {
            back = back + terms[i];
        }
        Check.that("these terms tell orders apart", back != 1.0);
        PathOdds x = Models.even(6, 1.0);
        for (int i = 0; i < 6; i++) {
            x.start(i, terms[i]);
            x.move(3, i, terms[i]);
        }
        x.read(0);
        Check.same("total()", x.total(), 1.0);
        x.states(6);
        for (int i = 0; i < 6; i++) {
            x.start(i, terms[i]);
            x.show(i, 0, 1.0);
            x.move(i, 5, 1.0);
        }
        Models.readAll(x, 0, 0);
        Check.same("A(1, 5)", x.forward(1, 5), 1.0);
        for (int j = 0; j < 6; j++) {
            x.move(3, j, terms[j]);
        }
        Check.same("B(0, 3)", x.backward(0, 3), 1.0);

        PathOdds minus = Models.even(1, 1.0);
        minus.start(0, -0.0);
        Models.readAll(minus, 0, 0);
        Check.sameBits("A(1, 0), the sum of -0.0 alone", minus.forward(1, 0), 0.0);
        minus.move(0, 0, -0.0);
        Check.sameBits("B(0, 0), the sum of -0.0 alone", minus.backward(0, 0), 0.0);
        minus.unread();
        Check.sameBits("total(), the sum of -0.0 alone", minus.total(), 0.0);
    }

    private static void productsOfThree() {
        PathOdds x = Models.even(2, 0.0);
        x.move(0, 1, 0.1);
        x.show(1, 1, 0.2);
        x.move(1, 0, 0.3);
        x.show(0, 2, 1.0);
        Models.readAll(x, 0, 1, 2);
        double due = 0.1 * 0.2 * 0.3;
        Check.that("that case tells orders apart", due != 0.1 * (0.2 * 0.3) && due != 0.1 * 0.3 * 0.2);
        Check.same("B(0, 0)", x.backward(0, 0), due);

        // The first two come out as 0, which a third of 6 behind them can't undo.
        PathOdds tiny = Models.even(6, 1.0);
        for (int j = 0; j < 6; j++) {
            tiny.move(0, j, j == 1 ? Double.MIN_VALUE : 0.0);
        }
        tiny.show(1, 1, 0.5);
        Models.readAll(tiny, 0, 1, 0);
        Check.same("B(1, 1)", tiny.backward(1, 1), 6.0);
        Check.same("B(0, 0)", tiny.backward(0, 0), 0.0);
    }

    private static void forwardBegins() {
        PathOdds x = Models.rich();
        Check.same("A(0, 0)", x.forward(0, 0), 0.31 * (0.11 + 2 * 0.21));
        Check.same("A(0, 1)", x.forward(0, 1), 0.67 * (0.97 - 2 * 0.23));
        x.move(0, 0, 0.0);
        x.move(1, 1, 0.0);
        Check.same("A(0, 0) whatever the moves", x.forward(0, 0), 0.31 * (0.11 + 2 * 0.21));
        double into = 0.0 + x.forward(0, 0) * 0.0 + x.forward(0, 1) * 0.83;
        Check.same("A(1, 0), the first that has moves", x.forward(1, 0), into * 0.11);
        Check.same("A(4, 0), the last", x.forward(4, 0), (x.forward(3, 0) * 0.0 + x.forward(3, 1) * 0.83) * 0.11);
    }

    private static void backwardBegins() {
        for (double w : new double[] {0.0, 0.5, 1.0}) {
            PathOdds x = Models.even(3, w);
            for (int t = 0; t < 12; t++) {
                x.read(t % 4);
                for (int i = 0; i < 3; i++) {
                    Check.same("B(" + t + ", " + i + ") at the end", x.backward(t, i), 1.0);
                }
                if (t > 0) {
                    Check.same("B before the end", x.backward(t - 1, 2), w * w + w * w + w * w);
                }
            }
        }
    }

    private static void totalOfNoSymbols() {
        for (int n = 1; n <= 6; n++) {
            for (double w : new double[] {0.0, 0.5, 1.0}) {
                PathOdds x = Models.even(n, w);
                Check.same("total() of " + n + " states with weights " + w, x.total(), 1.0);
                x.read(0);
                Check.same("total() of one symbol", x.total(), n * w * w);
                x.unread();
                Check.same("total() after unread()", x.total(), 1.0);
            }
        }
    }

    private static void bestBegins() {
        PathOdds x = Models.even(2, 0.0);
        x.start(0, 0.5);
        x.start(1, 0.25);
        x.show(0, 0, 0.25);
        x.show(1, 0, 1.0);
        x.read(0);
        Check.same("best() of one symbol, all moves 0", x.best(), 0.25);
        Check.same("bestState(0)", x.bestState(0), 1);
    }

    /** The lowest state that is in the set, whose bits are the states. */
    private static int lowestOf(int set) {
        return Integer.numberOfTrailingZeros(set);
    }

    private static double inOrOut(int set, int i) {
        return (set >> i & 1) == 1 ? 0.75 : 0.5;
    }

    private static void lowestFrom() {
        for (int set = 1; set < 64; set++) {
            PathOdds x = Models.even(6, 1.0);
            for (int i = 0; i < 6; i++) {
                x.start(i, inOrOut(set, i));
            }
            Models.readAll(x, 0, 0);
            Check.same("the greatest V(0, i) are " + Integer.toBinaryString(set), x.bestState(0), lowestOf(set));
            for (int i = 0; i < 6; i++) {
                x.start(i, 1.0);
                x.move(i, 4, inOrOut(set, i));
                x.show(i, 1, i == 4 ? 1.0 : 0.0);
            }
            x.unread();
            x.read(1);
            Check.same("it ends in", x.bestState(1), 4);
            Check.same("the greatest M(i, 4) are " + Integer.toBinaryString(set), x.bestState(0), lowestOf(set));
        }
        PathOdds rounded = Models.even(2, 1.0);
        rounded.start(0, Double.MIN_VALUE);
        rounded.start(1, Double.MIN_VALUE);
        rounded.move(0, 0, 0.75);
        Models.readAll(rounded, 0, 0);
        rounded.show(1, 0, 0.75);
        Check.same("two that come out alike end in", rounded.bestState(1), 0);
        Check.same("two that come out alike", rounded.bestState(0), 0);
    }

    private static void lowestEnd() {
        for (int set = 1; set < 64; set++) {
            PathOdds x = Models.even(6, 1.0);
            for (int j = 0; j < 6; j++) {
                x.show(j, 1, inOrOut(set, j));
            }
            x.read(1);
            Check.same("the greatest V(0, j) are " + Integer.toBinaryString(set), x.bestState(0), lowestOf(set));
            Check.same("best()", x.best(), 0.75);
            x.unread();
            Models.readAll(x, 0, 0, 1);
            Check.same("the greatest V(2, j) are " + Integer.toBinaryString(set), x.bestState(2), lowestOf(set));
        }
    }

    private static void stateBefore() {
        PathOdds x = Models.even(6, 0.5);
        int[] circle = {3, 5, 1, 0, 4, 2};
        x.start(circle[0], 1.0);
        for (int k = 0; k < 6; k++) {
            x.move(circle[k], circle[(k + 1) % 6], 1.0);
        }
        for (int length = 1; length <= 12; length++) {
            x.read(length % 4);
            for (int t = 0; t < length; t++) {
                Check.same("bestState(" + t + ") of " + length, x.bestState(t), circle[t % 6]);
            }
        }
        PathOdds turned = Models.even(2, 0.5);
        turned.start(0, 0.75);
        turned.move(1, 1, 1.0);
        turned.read(0);
        Check.same("the likeliest alone", turned.bestState(0), 0);
        turned.read(0);
        Check.same("but not before the likeliest end", turned.bestState(0), 1);
        Check.same("which is", turned.bestState(1), 1);
    }

    private static void possibleRows() {
        PathOdds one = Models.even(3, 0.0);
        one.start(0, 1.0);
        one.start(2, 1.0);
        one.show(1, 3, 1.0);
        one.show(2, 3, 1.0);
        one.read(3);
        Check.same("possible() of one symbol asks no move", one.possible(), 1);
        one.read(3);
        Check.same("possible() of two asks one", one.possible(), 0);
        one.move(2, 1, 1.0);
        Check.same("possible() of two", one.possible(), 1);
        one.read(3);
        Check.same("possible() of three asks two", one.possible(), 0);
        one.move(1, 2, 1.0);
        Check.same("possible() of three", one.possible(), 1);
        one.move(1, 1, 1.0);
        Check.same("possible() of three by two ways", one.possible(), 2);
    }

    private static void possibleWhereTheProductIsZero() {
        PathOdds x = Models.even(6, Double.MIN_VALUE);
        long due = 1;
        for (int t = 0; t < 12; t++) {
            x.read(t % 4);
            due = due * 6;
            Check.same("total() of " + (t + 1), x.total(), 0.0);
            Check.same("best() of " + (t + 1), x.best(), 0.0);
            Check.same("possible() of " + (t + 1), x.possible(), due);
        }
        for (double zero : new double[] {0.0, -0.0}) {
            PathOdds start = Models.even(2, Double.MIN_VALUE);
            Models.readAll(start, 0, 1, 0);
            start.start(0, zero);
            Check.same("S(0) is " + zero, start.possible(), 4);
            PathOdds move = Models.even(2, Double.MIN_VALUE);
            Models.readAll(move, 0, 1, 0);
            move.move(0, 0, zero);
            Check.same("M(0, 0) is " + zero, move.possible(), 5);
            PathOdds show = Models.even(2, Double.MIN_VALUE);
            Models.readAll(show, 0, 1, 0);
            show.show(1, 1, zero);
            Check.same("E(1, 1) is " + zero, show.possible(), 4);
        }
    }

    private static void refusedCalls() {
        isRefused("states(0)", x -> x.states(0));
        isRefused("states(7)", x -> x.states(7));
        isRefused("start(2, 0.5)", x -> x.start(2, 0.5));
        isRefused("start(-1, 0.5)", x -> x.start(-1, 0.5));
        isRefused("move(2, 0, 0.5)", x -> x.move(2, 0, 0.5));
        isRefused("move(1, 2, 0.5)", x -> x.move(1, 2, 0.5));
        isRefused("move(-1, 1, 0.5)", x -> x.move(-1, 1, 0.5));
        isRefused("move(1, -1, 0.5)", x -> x.move(1, -1, 0.5));
        isRefused("show(2, 0, 0.5)", x -> x.show(2, 0, 0.5));
        isRefused("show(-1, 0, 0.5)", x -> x.show(-1, 0, 0.5));
        isRefused("show(0, 4, 0.5)", x -> x.show(0, 4, 0.5));
        isRefused("show(1, -1, 0.5)", x -> x.show(1, -1, 0.5));
        for (double w : new double[] {-Double.MIN_VALUE, Math.nextUp(1.0), Double.NaN}) {
            isRefused("start(1, " + w + ")", x -> x.start(1, w));
            isRefused("move(1, 0, " + w + ")", x -> x.move(1, 0, w));
            isRefused("show(0, 3, " + w + ")", x -> x.show(0, 3, w));
        }
        isRefused("read(4)", x -> x.read(4));
        isRefused("read(-1)", x -> x.read(-1));
        changesNothing("bestState(5)", x -> x.bestState(5));
        changesNothing("bestState(-1)", x -> x.bestState(-1));
        for (int t : new int[] {-1, 0, 5}) {
            for (int i : new int[] {-1, 2}) {
                changesNothing("forward(" + t + ", " + i + ")", x -> x.forward(t, i));
                changesNothing("backward(" + t + ", " + i + ")", x -> x.backward(t, i));
                changesNothing("share(" + t + ", " + i + ")", x -> x.share(t, i));
            }
        }
        refusedWithoutSymbols();
    }

    private static void isRefused(String call, Told.Question refused) {
        PathOdds x = Models.rich();
        Check.that(call + " answers false", Told.by(x, refused).equals("false"));
        changesNothing(call, refused);
    }

    /** The untouched object does the same afterwards, so that what is read over an old row counts too. */
    private static void changesNothing(String call, Told.Question refused) {
        PathOdds x = Models.rich();
        PathOdds untouched = Models.rich();
        Told.by(x, refused);
        Check.that(call + " changes nothing", Told.by(x).equals(Told.by(untouched)));
        Told.by(x, refused);
        x.unread();
        x.read(3);
        untouched.unread();
        untouched.read(3);
        Check.that(call + " changes nothing that comes later", Told.by(x).equals(Told.by(untouched)));
    }

    private static void refusedWithoutSymbols() {
        PathOdds x = Models.even(2, 0.5);
        Check.that("unread() of no symbols answers false", !x.unread());
        Check.that("and again", !x.unread());
        Check.same("length() after it", x.length(), 0);
        Models.readTimes(x, 0, 12);
        Check.that("there is room for 12 and no more", !x.read(0));
        PathOdds zero = Models.even(2, 0.0);
        Models.readAll(zero, 0, 1);
        List<String> before = Told.by(zero);
        Check.throwsExactly("share(0, 0)", ArithmeticException.class, () -> zero.share(0, 0));
        Check.that("share(0, 0) changes nothing", Told.by(zero).equals(before));
    }

    private static void present() {
        Told.Question[] changes = {
            x -> x.start(0, 0.0), x -> x.move(1, 0, 0.125), x -> x.show(0, 3, 1.0), x -> x.unread(), x -> x.read(3),
            x -> x.unread(), x -> x.unread(), x -> x.start(1, 0.25), x -> x.read(1), x -> x.move(0, 0, 1.0),
            x -> x.states(1), x -> x.read(2), x -> x.start(0, 0.5), x -> x.show(0, 2, 0.75),
            x -> x.states(3), x -> x.show(2, 1, 1.0), x -> x.start(2, 1.0), x -> x.read(1), x -> x.read(1),
            x -> x.move(2, 2, 0.5)
        };
        for (int count = 1; count <= changes.length; count++) {
            PathOdds silent = changed(changes, count);
            List<Told.Question> questions = Told.questions(silent.size(), silent.length());
            List<String> due = Told.by(silent);
            for (int k = 0; k < questions.size(); k++) {
                PathOdds asked = changed(changes, count - 1);
                Told.by(asked);
                Told.by(asked, changes[count - 1]);
                String got = Told.by(asked, questions.get(k));
                Check.that("after change " + count + ", question " + k, got.equals(due.get(k)));
            }
        }
        questionsLeaveNoTrace();
    }

    private static PathOdds changed(Told.Question[] changes, int count) {
        PathOdds x = Models.rich();
        for (int k = 0; k < count; k++) {
            Told.by(x, changes[k]);
        }
        return x;
    }

    private static void questionsLeaveNoTrace() {
        List<Told.Question> questions = Told.questions(2, 5);
        List<String> answers = Told.by(Models.rich());
        Check.same("as many answers as questions", answers.size(), questions.size());
        for (int k = 0; k < questions.size(); k++) {
            String alone = Told.by(Models.rich(), questions.get(k));
            Check.that("question " + k + " asked alone or after others", alone.equals(answers.get(k)));
        }
    }
}
