import java.util.function.Supplier;

/** One method a promise: ordinary inputs, the edges that the document names, and wrong inputs. */
public final class PromisesTest {
    private static final int[] NO_STATE_OF_TWO = {-1, 2, 5, 6, Integer.MIN_VALUE, Integer.MAX_VALUE};
    private static final int[] NO_SYMBOL = {-1, 4, 5, 12, Integer.MIN_VALUE, Integer.MAX_VALUE};
    private static final double[] NO_WEIGHT = {
        -Double.MIN_VALUE, -0.125, -1.0, Math.nextUp(1.0), 1.125, 2.0, Double.MAX_VALUE,
        Double.POSITIVE_INFINITY, Double.NEGATIVE_INFINITY, Double.NaN
    };
    private static final double[] WEIGHTS = {0.0, -0.0, Double.MIN_VALUE, 0.1, 0.5, Math.nextDown(1.0), 1.0};

    private PromisesTest() {
    }

    public static void main(String[] args) {
        newObject();
        states();
        size();
        start();
        move();
        show();
        read();
        unread();
        length();
        forward();
        backward();
        total();
        best();
        bestState();
        share();
        possible();
        answersOfThePresent();
        Check.end();
    }

    /** Two states with weights that no two orders of sums and products treat alike. */
    private static PathOdds uneven() {
        PathOdds x = new PathOdds();
        x.states(2);
        x.start(0, 0.1);
        x.start(1, 0.7);
        x.move(0, 0, 0.3);
        x.move(0, 1, 0.6);
        x.move(1, 0, 0.9);
        x.move(1, 1, 0.2);
        x.show(0, 0, 0.7);
        x.show(1, 0, 0.3);
        x.show(0, 1, 0.1);
        x.show(1, 1, 0.9);
        return x;
    }

    private static void newObject() {
        PathOdds x = new PathOdds();
        Check.same("1: size() of a new object", x.size(), 1);
        Check.same("1: length() of a new object", x.length(), 0);
        allWeightsAreZero("1: a new object", PathOdds::new);
    }

    /** Each kind of weights is seen by making the others 1, so each kind takes an object of its own. */
    private static void allWeightsAreZero(String what, Supplier<PathOdds> made) {
        PathOdds starts = made.get();
        int n = starts.size();
        fill(starts, false, true, true);
        starts.read(0);
        for (int i = 0; i < n; i++) {
            Check.same(what + ", S(" + i + ")", starts.forward(0, i), 0.0);
        }
        PathOdds moves = made.get();
        fill(moves, true, false, true);
        Models.readAll(moves, 0, 0);
        for (int i = 0; i < n; i++) {
            Check.same(what + ", M(" + i + ", j)", moves.backward(0, i), 0.0);
        }
        PathOdds shown = made.get();
        fill(shown, true, true, false);
        for (int s = 0; s < 4; s++) {
            shown.read(s);
            for (int i = 0; i < n; i++) {
                Check.same(what + ", E(" + i + ", " + s + ")", shown.forward(0, i), 0.0);
            }
            shown.unread();
        }
    }

    private static void fill(PathOdds x, boolean starts, boolean moves, boolean shown) {
        for (int i = 0; i < x.size(); i++) {
            if (starts) {
                x.start(i, 1.0);
            }
            for (int j = 0; moves && j < x.size(); j++) {
                x.move(i, j, 1.0);
            }
            for (int s = 0; shown && s < 4; s++) {
                x.show(i, s, 1.0);
            }
        }
    }

    private static PathOdds madeAnew(int... counts) {
        PathOdds x = Models.even(6, 1.0);
        Models.readAll(x, 0, 1, 2);
        for (int n : counts) {
            Check.that("2: states(" + n + ")", x.states(n));
        }
        return x;
    }

    private static void states() {
        for (int n = 1; n <= 6; n++) {
            int count = n;
            PathOdds x = madeAnew(n);
            Check.same("2: size()", x.size(), n);
            Check.same("2: length()", x.length(), 0);
            allWeightsAreZero("2: after states(" + n + ")", () -> madeAnew(count));
            allWeightsAreZero("2: states that were gone", () -> madeAnew(1, count));
        }
        PathOdds kept = Models.even(2, 0.5);
        Models.readAll(kept, 0, 3);
        for (int n : new int[] {0, -1, 7, 8, Integer.MIN_VALUE, Integer.MAX_VALUE}) {
            Check.that("2: states(" + n + ") is refused", !kept.states(n));
            Check.same("2: size() after a refusal", kept.size(), 2);
            Check.same("2: length() after a refusal", kept.length(), 2);
            Check.same("2: total() after a refusal", kept.total(), 0.25);
        }
    }

    private static void size() {
        PathOdds x = new PathOdds();
        for (int n : new int[] {4, 1, 6, 2}) {
            x.states(n);
            x.read(0);
            Check.same("3: size()", x.size(), n);
        }
        x.states(9);
        Check.same("3: size() after a refusal", x.size(), 2);
    }

    private static void start() {
        PathOdds x = Models.even(2, 1.0);
        x.read(0);
        for (double w : WEIGHTS) {
            Check.that("4: start(1, " + w + ")", x.start(1, w));
            Check.same("4: S(1)", x.forward(0, 1), w);
            Check.same("4: S(0) is left alone", x.forward(0, 0), 1.0);
        }
        x.start(0, 0.25);
        x.start(1, 0.75);
        for (double w : NO_WEIGHT) {
            Check.that("4: start(1, " + w + ") is refused", !x.start(1, w));
        }
        for (int i : NO_STATE_OF_TWO) {
            Check.that("4: start(" + i + ", 0.5) is refused", !x.start(i, 0.5));
        }
        Check.same("4: S(0) after refusals", x.forward(0, 0), 0.25);
        Check.same("4: S(1) after refusals", x.forward(0, 1), 0.75);
    }

    private static void move() {
        PathOdds x = Models.even(2, 1.0);
        Models.readAll(x, 0, 0);
        for (double w : WEIGHTS) {
            Check.that("5: move(0, 1, " + w + ")", x.move(0, 1, w));
            Check.same("5: M(0, 0) + M(0, 1)", x.backward(0, 0), 1.0 + w);
            Check.same("5: M(1, 0) + M(1, 1)", x.backward(0, 1), 2.0);
            Check.same("5: into state 0", x.forward(1, 0), 2.0);
            Check.same("5: into state 1", x.forward(1, 1), w + 1.0);
        }
        x.move(0, 1, 0.25);
        for (double w : NO_WEIGHT) {
            Check.that("5: move(0, 1, " + w + ") is refused", !x.move(0, 1, w));
        }
        for (int i : NO_STATE_OF_TWO) {
            Check.that("5: move(" + i + ", 0, 0.5) is refused", !x.move(i, 0, 0.5));
            Check.that("5: move(0, " + i + ", 0.5) is refused", !x.move(0, i, 0.5));
            Check.that("5: move(" + i + ", " + i + ", 0.5) is refused", !x.move(i, i, 0.5));
        }
        Check.same("5: from 0 after refusals", x.backward(0, 0), 1.25);
        Check.same("5: from 1 after refusals", x.backward(0, 1), 2.0);
    }

    private static void show() {
        PathOdds x = Models.even(2, 1.0);
        for (int s = 0; s < 4; s++) {
            x.read(s);
            for (double w : WEIGHTS) {
                Check.that("6: show(1, " + s + ", " + w + ")", x.show(1, s, w));
                Check.same("6: E(1, " + s + ")", x.forward(0, 1), w);
                Check.same("6: E(0, " + s + ") is left alone", x.forward(0, 0), 1.0);
            }
            x.show(1, s, 0.25);
            for (double w : NO_WEIGHT) {
                Check.that("6: show(1, " + s + ", " + w + ") is refused", !x.show(1, s, w));
            }
            for (int i : NO_STATE_OF_TWO) {
                Check.that("6: show(" + i + ", " + s + ", 0.5) is refused", !x.show(i, s, 0.5));
            }
            for (int none : NO_SYMBOL) {
                Check.that("6: show(1, " + none + ", 0.5) is refused", !x.show(1, none, 0.5));
            }
            Check.same("6: E(1, " + s + ") after refusals", x.forward(0, 1), 0.25);
            Check.same("6: E(0, " + s + ") after refusals", x.forward(0, 0), 1.0);
            x.unread();
        }
    }

    private static void read() {
        PathOdds x = Models.even(1, 1.0);
        for (int s = 0; s < 4; s++) {
            x.show(0, s, 1.0 / (1 << s));
        }
        for (int s : NO_SYMBOL) {
            Check.that("7: read(" + s + ") is refused", !x.read(s));
        }
        Check.same("7: length() after refusals", x.length(), 0);
        double product = 1.0;
        for (int t = 0; t < 12; t++) {
            Check.that("7: read at " + t, x.read(t % 4));
            product = product / (1 << t % 4);
            Check.same("7: length()", x.length(), t + 1);
            Check.same("7: A(" + t + ", 0)", x.forward(t, 0), product);
        }
        for (int s = -1; s <= 4; s++) {
            Check.that("7: a 13th symbol " + s + " is refused", !x.read(s));
        }
        Check.same("7: length() of a full row", x.length(), 12);
        Check.same("7: the full row is left alone", x.total(), product);
    }

    private static void unread() {
        PathOdds x = Models.even(1, 1.0);
        x.show(0, 1, 0.5);
        x.show(0, 2, 0.25);
        Check.that("8: unread() of no symbols is refused", !x.unread());
        Check.same("8: length() after a refusal", x.length(), 0);
        Models.readAll(x, 1, 2);
        Check.that("8: unread()", x.unread());
        Check.same("8: what is left is the first symbol", x.total(), 0.5);
        Models.readAll(x, 1);
        Check.same("8: read after unread", x.total(), 0.25);
        Check.that("8: unread()", x.unread());
        Check.that("8: unread()", x.unread());
        Check.that("8: unread() of no symbols is refused", !x.unread());
        Check.same("8: total() of no symbols", x.total(), 1.0);
        for (int t = 0; t < 12; t++) {
            x.read(2);
        }
        Check.that("8: unread() of a full row", x.unread());
        Check.that("8: room for one again", x.read(1));
        Check.that("8: and no more", !x.read(1));
    }

    private static void length() {
        PathOdds x = new PathOdds();
        Check.same("9: length()", x.length(), 0);
        Models.readAll(x, 3, 3, 3);
        Check.same("9: length()", x.length(), 3);
        x.unread();
        x.read(4);
        Check.same("9: length()", x.length(), 2);
        x.states(2);
        Check.same("9: length()", x.length(), 0);
    }

    private static void forward() {
        PathOdds x = uneven();
        Models.readAll(x, 0, 1, 0);
        double a00 = 0.1 * 0.7;
        double a01 = 0.7 * 0.3;
        double a10 = (a00 * 0.3 + a01 * 0.9) * 0.1;
        double a11 = (a00 * 0.6 + a01 * 0.2) * 0.9;
        Check.same("10: A(0, 0)", x.forward(0, 0), a00);
        Check.same("10: A(0, 1)", x.forward(0, 1), a01);
        Check.same("10: A(1, 0)", x.forward(1, 0), a10);
        Check.same("10: A(1, 1)", x.forward(1, 1), a11);
        Check.same("10: A(2, 0)", x.forward(2, 0), (a10 * 0.3 + a11 * 0.9) * 0.7);
        Check.same("10: A(2, 1)", x.forward(2, 1), (a10 * 0.6 + a11 * 0.2) * 0.3);

        PathOdds lowFirst = Models.even(3, 1.0);
        lowFirst.start(0, 0.1);
        lowFirst.start(1, 0.2);
        lowFirst.start(2, 0.3);
        Models.readAll(lowFirst, 0, 0);
        Check.same("10: the lowest state is added first", lowFirst.forward(1, 2), 0.1 + 0.2 + 0.3);
        Check.that("10: that case tells orders apart", 0.1 + 0.2 + 0.3 != 0.3 + 0.2 + 0.1);

        PathOdds sumFirst = Models.even(2, 1.0);
        sumFirst.start(0, 0.1);
        sumFirst.start(1, 0.2);
        sumFirst.show(0, 1, 0.3);
        Models.readAll(sumFirst, 0, 1);
        Check.same("10: E comes in after the sum", sumFirst.forward(1, 0), (0.1 + 0.2) * 0.3);
        Check.that("10: that case tells orders apart", (0.1 + 0.2) * 0.3 != 0.1 * 0.3 + 0.2 * 0.3);

        for (int n = 1; n <= 6; n++) {
            PathOdds whole = Models.even(n, 1.0);
            double due = 1.0;
            for (int t = 0; t < 12; t++) {
                whole.read(t % 4);
                Check.same("10: weights of 1", whole.forward(t, n - 1), due);
                due = due * n;
            }
        }
        placesAndStates("10: forward", a -> a.model.forward(a.t, a.i));
    }

    private static void backward() {
        PathOdds x = uneven();
        Models.readAll(x, 0, 1, 0);
        double b10 = 0.3 * 0.7 * 1.0 + 0.6 * 0.3 * 1.0;
        double b11 = 0.9 * 0.7 * 1.0 + 0.2 * 0.3 * 1.0;
        Check.same("11: B(2, 0)", x.backward(2, 0), 1.0);
        Check.same("11: B(2, 1)", x.backward(2, 1), 1.0);
        Check.same("11: B(1, 0)", x.backward(1, 0), b10);
        Check.same("11: B(1, 1)", x.backward(1, 1), b11);
        Check.same("11: B(0, 0)", x.backward(0, 0), 0.3 * 0.1 * b10 + 0.6 * 0.9 * b11);
        Check.same("11: B(0, 1)", x.backward(0, 1), 0.9 * 0.1 * b10 + 0.2 * 0.9 * b11);

        PathOdds fromLeft = new PathOdds();
        fromLeft.states(2);
        fromLeft.move(0, 1, 0.1);
        fromLeft.show(1, 1, 0.2);
        fromLeft.move(1, 0, 0.3);
        fromLeft.show(0, 2, 1.0);
        Models.readAll(fromLeft, 0, 1, 2);
        Check.same("11: a product of three from the left", fromLeft.backward(0, 0), 0.1 * 0.2 * 0.3);
        Check.that("11: that case tells orders apart", 0.1 * 0.2 * 0.3 != 0.1 * (0.2 * 0.3));

        PathOdds tiny = Models.even(1, 1e-200);
        Models.readAll(tiny, 0, 0);
        Check.same("11: a product that comes out as 0", tiny.backward(0, 0), 0.0);

        PathOdds lowFirst = Models.even(3, 1.0);
        lowFirst.move(1, 0, 0.1);
        lowFirst.move(1, 1, 0.2);
        lowFirst.move(1, 2, 0.3);
        Models.readAll(lowFirst, 2, 3);
        Check.same("11: the lowest state is added first", lowFirst.backward(0, 1), 0.1 + 0.2 + 0.3);

        PathOdds nothing = new PathOdds();
        nothing.read(0);
        Check.same("11: the last is 1 whatever the weights", nothing.backward(0, 0), 1.0);
        nothing.read(0);
        Check.same("11: weights of 0", nothing.backward(0, 0), 0.0);
        Check.same("11: the last is 1 whatever the weights", nothing.backward(1, 0), 1.0);
        placesAndStates("11: backward", a -> a.model.backward(a.t, a.i));
    }

    private static void total() {
        PathOdds x = uneven();
        Check.same("12: total() of no symbols", x.total(), 1.0);
        Models.readAll(x, 0);
        Check.same("12: total() of one symbol", x.total(), 0.1 * 0.7 + 0.7 * 0.3);
        Models.readAll(x, 1, 0);
        Check.same("12: total()", x.total(), x.forward(2, 0) + x.forward(2, 1));
        PathOdds lowFirst = Models.even(3, 1.0);
        lowFirst.start(0, 0.1);
        lowFirst.start(1, 0.2);
        lowFirst.start(2, 0.3);
        Models.readAll(lowFirst, 0);
        Check.same("12: the lowest state is added first", lowFirst.total(), 0.1 + 0.2 + 0.3);
        PathOdds most = Models.even(6, 1.0);
        Models.readAll(most, 0, 1, 2, 3, 0, 1, 2, 3, 0, 1, 2, 3);
        Check.same("12: the greatest total", most.total(), 2176782336.0);
        PathOdds least = Models.even(6, 0.0);
        least.read(0);
        Check.same("12: weights of 0", least.total(), 0.0);
    }

    private static void best() {
        PathOdds x = uneven();
        Check.same("13: best() of no symbols", x.best(), 1.0);
        Models.readAll(x, 0);
        Check.same("13: best() of one symbol", x.best(), 0.7 * 0.3);
        Models.readAll(x, 1);
        Check.same("13: best() of two", x.best(), Math.max(0.7 * 0.3 * 0.9 * 0.1, 0.7 * 0.3 * 0.2 * 0.9));
        PathOdds moveFirst = new PathOdds();
        moveFirst.start(0, 0.1);
        moveFirst.show(0, 0, 1.0);
        moveFirst.move(0, 0, 0.2);
        moveFirst.show(0, 1, 0.3);
        Models.readAll(moveFirst, 0, 1);
        Check.same("13: E comes in last", moveFirst.best(), 0.1 * 0.2 * 0.3);
        Check.that("13: that case tells orders apart",
            0.1 * 0.2 * 0.3 != 0.1 * (0.2 * 0.3) && 0.1 * 0.2 * 0.3 != 0.1 * 0.3 * 0.2);
        PathOdds most = Models.even(6, 1.0);
        Models.readAll(most, 0, 1, 2, 3, 0, 1, 2, 3, 0, 1, 2, 3);
        Check.same("13: weights of 1", most.best(), 1.0);
        for (int only = 0; only < 6; only++) {
            PathOdds one = Models.even(6, 0.5);
            one.show(only, 2, 1.0);
            one.read(2);
            Check.same("13: the greatest is at " + only, one.best(), 0.5);
        }
        PathOdds least = Models.even(6, 0.0);
        least.read(0);
        Check.same("13: weights of 0", least.best(), 0.0);
        PathOdds tiny = Models.even(2, 1e-200);
        tiny.read(0);
        Check.same("13: a product that comes out as 0", tiny.best(), 0.0);
    }

    private static void states(String what, PathOdds x, int... due) {
        for (int t = 0; t < due.length; t++) {
            Check.same(what + ", bestState(" + t + ")", x.bestState(t), due[t]);
        }
        for (int t : new int[] {-1, due.length, 12, Integer.MIN_VALUE, Integer.MAX_VALUE}) {
            Check.same(what + ", bestState(" + t + ")", x.bestState(t), -1);
        }
    }

    private static void bestState() {
        states("14: no symbols", new PathOdds());

        PathOdds circle = Models.even(3, 0.25);
        circle.start(2, 1.0);
        circle.move(2, 0, 1.0);
        circle.move(0, 1, 1.0);
        circle.move(1, 2, 1.0);
        Models.readAll(circle, 0, 1, 2, 3, 0, 1, 2, 3, 0, 1, 2, 3);
        states("14: a full row", circle, 2, 0, 1, 2, 0, 1, 2, 0, 1, 2, 0, 1);

        PathOdds ties = Models.even(4, 0.5);
        Models.readAll(ties, 0, 0, 0);
        states("14: all alike", ties, 0, 0, 0);
        ties.start(0, 0.25);
        states("14: the lowest of those that tie", ties, 1, 0, 0);
        ties.show(0, 0, 0.25);
        states("14: the lowest of those that tie", ties, 1, 1, 1);

        PathOdds later = Models.even(2, 0.5);
        later.start(0, 0.75);
        later.move(1, 1, 1.0);
        Models.readAll(later, 0, 0);
        states("14: the best row need not begin in the best first state", later, 1, 1);

        PathOdds zero = Models.even(3, 0.5);
        zero.start(2, 1.0);
        for (int j = 0; j < 3; j++) {
            zero.move(0, j, 0.0);
            zero.move(1, j, 0.0);
            zero.show(j, 3, 0.0);
        }
        Models.readAll(zero, 0, 3);
        Check.same("14: best()", zero.best(), 0.0);
        states("14: best() is 0 by what is shown", zero, 2, 0);
        zero.read(0);
        states("14: best() is 0 and goes on", zero, 2, 0, 0);

        PathOdds stuck = Models.even(3, 0.0);
        stuck.start(2, 1.0);
        stuck.show(2, 0, 1.0);
        stuck.show(1, 0, 1.0);
        Models.readAll(stuck, 0);
        states("14: one way", stuck, 2);
        Models.readAll(stuck, 0);
        states("14: best() is 0 by moves", stuck, 0, 0);

        PathOdds tiny = Models.even(2, 1.0);
        tiny.show(0, 0, 1e-200);
        tiny.show(1, 0, 1e-190);
        Models.readAll(tiny, 0, 0);
        Check.same("14: best()", tiny.best(), 0.0);
        states("14: best() comes out as 0", tiny, 1, 0);

        // The move decides before the symbol's weight rounds both to the same double.
        PathOdds close = Models.even(2, 1.0);
        close.start(0, 0.6);
        close.start(1, 0.7);
        close.show(0, 1, Double.MIN_VALUE);
        close.show(1, 1, 0.0);
        Models.readAll(close, 0, 1);
        states("14: from is chosen before E", close, 1, 0);
    }

    private static void share() {
        PathOdds x = uneven();
        Models.readAll(x, 0, 1, 0);
        for (int t = 0; t < 3; t++) {
            double sum = 0.0;
            for (int i = 0; i < 2; i++) {
                double due = (x.forward(t, i) * x.backward(t, i)) / x.total();
                Check.same("15: share(" + t + ", " + i + ")", x.share(t, i), due);
                sum += x.share(t, i);
            }
            Check.near("15: the shares at " + t, sum, 1.0);
        }
        PathOdds productFirst = new PathOdds();
        productFirst.states(2);
        productFirst.start(0, 0.1);
        productFirst.start(1, 0.2);
        productFirst.move(0, 0, 0.1);
        productFirst.move(1, 1, 1.0);
        productFirst.show(0, 0, 1.0);
        productFirst.show(1, 0, 1.0);
        Models.readAll(productFirst, 0, 0);
        double all = 0.1 * 0.1 + 0.2;
        Check.same("15: the product comes first", productFirst.share(0, 0), (0.1 * 0.1) / all);
        Check.that("15: that case tells orders apart", (0.1 * 0.1) / all != 0.1 * (0.1 / all));

        PathOdds only = Models.even(2, 0.5);
        only.start(0, 0.0);
        Models.readAll(only, 1);
        Check.same("15: a share of 0", only.share(0, 0), 0.0);
        Check.same("15: a share of 1", only.share(0, 1), 1.0);

        PathOdds small = new PathOdds();
        small.start(0, Double.MIN_VALUE);
        small.show(0, 0, 1.0);
        small.read(0);
        Check.same("15: the least total above 0", small.share(0, 0), 1.0);

        placesAndStates("15: share", a -> a.model.share(a.t, a.i));

        PathOdds none = Models.even(2, 0.0);
        Check.throwsExactly("15: share(0, 0) of no symbols", IndexOutOfBoundsException.class, () -> none.share(0, 0));
        Models.readAll(none, 0, 0);
        Check.throwsExactly("15: share(0, 1) of nothing", ArithmeticException.class, () -> none.share(0, 1));
        Check.throwsExactly("15: share(1, 0) of nothing", ArithmeticException.class, () -> none.share(1, 0));
        Check.throwsExactly("15: the state before the total", IllegalArgumentException.class, () -> none.share(1, 2));
        Check.throwsExactly("15: the place before the total", IndexOutOfBoundsException.class, () -> none.share(2, 0));
        Check.throwsExactly("15: the place before the state", IndexOutOfBoundsException.class, () -> none.share(2, 2));

        PathOdds tiny = Models.even(2, 1e-200);
        Models.readAll(tiny, 0);
        Check.throwsExactly("15: a total that comes out as 0", ArithmeticException.class, () -> tiny.share(0, 0));
        PathOdds minus = Models.even(2, -0.0);
        Models.readAll(minus, 0);
        Check.throwsExactly("15: a total of weights -0.0", ArithmeticException.class, () -> minus.share(0, 0));
    }

    private static void possible() {
        PathOdds x = Models.even(6, 1.0);
        long due = 1;
        for (int t = 0; t <= 12; t++) {
            Check.same("16: possible() at length " + t, x.possible(), due);
            x.read(t % 4);
            due *= 6;
        }
        PathOdds tiny = Models.even(3, Double.MIN_VALUE);
        Models.readAll(tiny, 0, 1, 2);
        Check.same("16: total()", tiny.total(), 0.0);
        Check.same("16: products that come out as 0", tiny.possible(), 27);
        tiny.start(1, 0.0);
        Check.same("16: two ways to begin", tiny.possible(), 18);
        tiny.move(0, 1, -0.0);
        Check.same("16: without the move from 0 to 1", tiny.possible(), 13);
        tiny.show(2, 2, 0.0);
        Check.same("16: 2 does not show the last symbol", tiny.possible(), 8);
        tiny.show(2, 3, 0.0);
        Check.same("16: a symbol that is not in the row", tiny.possible(), 8);
        tiny.show(0, 0, 0.0);
        tiny.show(2, 0, 0.0);
        Check.same("16: none can begin", tiny.possible(), 0);
        PathOdds none = new PathOdds();
        Check.same("16: no symbols", none.possible(), 1);
        none.read(0);
        Check.same("16: no weights", none.possible(), 0);
    }

    private static void answersOfThePresent() {
        PathOdds x = Models.even(2, 0.5);
        Models.readAll(x, 0, 0);
        x.forward(1, 1);
        x.backward(0, 0);
        x.best();
        x.possible();
        x.share(0, 0);
        x.start(0, 0.0);
        Check.same("after start: total()", x.total(), 0.125);
        Check.same("after start: bestState(0)", x.bestState(0), 1);
        Check.same("after start: possible()", x.possible(), 2);
        Check.same("after start: share(0, 1)", x.share(0, 1), 1.0);
        x.move(1, 0, 1.0);
        Check.same("after move: backward(0, 1)", x.backward(0, 1), 0.75);
        Check.same("after move: best()", x.best(), 0.125);
        x.show(0, 0, 0.0);
        Check.same("after show: forward(1, 0)", x.forward(1, 0), 0.0);
        Check.same("after show: bestState(1)", x.bestState(1), 1);
        Check.same("after show: possible()", x.possible(), 1);
        x.unread();
        Check.same("after unread: backward(0, 1)", x.backward(0, 1), 1.0);
        Check.same("after unread: bestState(1)", x.bestState(1), -1);
        PathOdds y = Models.even(2, 1.0);
        y.read(0);
        Check.same("two objects: total()", x.total(), 0.25);
        Check.same("two objects: total()", y.total(), 2.0);
    }

    /** What a call of forward, backward or share is asked with. */
    private record Asked(PathOdds model, int t, int i) {
    }

    private interface Question {
        double of(Asked a);
    }

    private static void placesAndStates(String what, Question question) {
        PathOdds x = Models.even(2, 1.0);
        int[] noPlace = {-1, 2, 11, 12, Integer.MIN_VALUE, Integer.MAX_VALUE};
        int[] places = {0, 1};
        Check.throwsExactly(what + " of no symbols", IndexOutOfBoundsException.class,
            () -> question.of(new Asked(x, 0, 0)));
        Models.readAll(x, 0, 1, 2);
        x.unread();
        for (int t : noPlace) {
            for (int i = -1; i <= 2; i++) {
                Asked a = new Asked(x, t, i);
                Check.throwsExactly(what + "(" + t + ", " + i + ")", IndexOutOfBoundsException.class,
                    () -> question.of(a));
            }
        }
        for (int t : places) {
            for (int i : NO_STATE_OF_TWO) {
                Asked a = new Asked(x, t, i);
                Check.throwsExactly(what + "(" + t + ", " + i + ")", IllegalArgumentException.class,
                    () -> question.of(a));
            }
        }
        Check.same(what + " leaves the row alone", x.length(), 2);
        Check.same(what + " leaves the weights alone", x.total(), 4.0);
    }
}
