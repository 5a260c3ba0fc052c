import java.util.List;
import java.util.function.Supplier;

/** One method for each promise's sentence that names a boundary case; those of the "Terms" are in TermsTest. */
public final class EdgesTest {
    private static final double BELOW_ZERO = -Double.MIN_VALUE;
    private static final double ABOVE_ONE = Math.nextUp(1.0);
    private static final double[] NO_WEIGHT = {
        BELOW_ZERO, ABOVE_ONE, -1.0, 2.0, Double.NaN, Double.NEGATIVE_INFINITY, Double.POSITIVE_INFINITY
    };

    private EdgesTest() {
    }

    public static void main(String[] args) {
        Check.sentence("Promise 1: \"One state, all weights 0, no symbols.\"", EdgesTest::newObject);
        Check.sentence("Promise 2: \"n states, all weights 0, no symbols\"", EdgesTest::statesMakeAllAnew);
        Check.sentence("Promise 2: \"false if n is not 1 .. 6.\"", EdgesTest::statesRefused);
        Check.sentence("Promise 3: \"The number of states.\"", EdgesTest::size);
        Check.sentence("Promise 4: \"false if there is no such state or w is not from 0 to 1.\"",
            EdgesTest::startRefused);
        Check.sentence("Promise 4: \"S(i) becomes w\", and so for M and E, -0.0 too", EdgesTest::weightsBecomeMinusZero);
        Check.sentence("Promise 5: \"false if there is no such state or w is not from 0 to 1.\"",
            EdgesTest::moveRefused);
        Check.sentence("Promise 6: \"false if there is no such state or symbol, or w is not from 0 to 1.\"",
            EdgesTest::showRefused);
        Check.sentence("Promise 7: \"false if there is no such symbol or the row has 12.\"", EdgesTest::readRefused);
        Check.sentence("Promise 8: \"Takes the last symbol away; false if there is none.\"", EdgesTest::unreadRefused);
        Check.sentence("Promise 9: \"T.\"", EdgesTest::length);
        Check.sentence("Promise 10: \"IndexOutOfBoundsException if t is not 0 .. T - 1\"",
            EdgesTest::forwardWithoutPlace);
        Check.sentence("Promise 10: \"IllegalArgumentException (t being right) if there is no such state.\"",
            EdgesTest::forwardWithoutState);
        Check.sentence("Promise 11: \"The exceptions of forward.\"", EdgesTest::backwardThrows);
        Check.sentence("Promise 12: \"The total.\" (1.0 for T = 0)", EdgesTest::totalOfNoSymbols);
        Check.sentence("Promise 13: \"1.0 for T = 0.\"", EdgesTest::bestOfNoSymbols);
        Check.sentence("Promise 14: \"-1 if t is not 0 .. T - 1.\"", EdgesTest::bestStateWithoutPlace);
        Check.sentence("Promise 14: \"(Also where best() is 0.)\"", EdgesTest::bestStateWhereBestIsZero);
        Check.sentence("Promise 15: \"The exceptions of forward\"", EdgesTest::shareThrowsAsForward);
        Check.sentence("Promise 15: \"then ArithmeticException if the total is 0.\"", EdgesTest::shareOfNothing);
        Check.sentence("Promise 15: \"(A(t, i) * B(t, i)) / total\", where the total is above 0 by the least",
            EdgesTest::shareOfTheLeastTotal);
        Check.sentence("Promise 16: \"1 for T = 0.\"", EdgesTest::possibleOfNoSymbols);
        Check.sentence("Promise 16: \"How many rows of T states are possible\", more than an int can hold",
            EdgesTest::possibleOfTheLongestRow);
        Check.sentence("What it is: \"An object is used for at most 512 calls after it has been made\"",
            EdgesTest::lastOfManyCalls);
        Check.end();
    }

    private static void newObject() {
        PathOdds x = new PathOdds();
        Check.same("size()", x.size(), 1);
        Check.same("length()", x.length(), 0);
        Check.that("there is no state 1", !x.start(1, 0.5));
        Check.that("there is no symbol to take away", !x.unread());
        weightsAreZero(PathOdds::new);
    }

    private static void statesMakeAllAnew() {
        for (int from = 1; from <= 6; from++) {
            for (int to = 1; to <= 6; to++) {
                int before = from;
                int n = to;
                PathOdds x = full(before, n);
                Check.same("size()", x.size(), n);
                Check.same("length()", x.length(), 0);
                Check.that("unread() is refused", !x.unread());
                weightsAreZero(() -> full(before, n));
                // A weight of a state that was gone for a while is 0 as well.
                weightsAreZero(() -> full(before, 1, n));
            }
        }
    }

    /** All weights are 1 and the row is full before the states are set. */
    private static PathOdds full(int before, int... counts) {
        PathOdds x = Models.even(before, 1.0);
        Models.readTimes(x, 1, 12);
        for (int n : counts) {
            Check.that("states(" + n + ")", x.states(n));
        }
        return x;
    }

    /** A weight shows only where others are above 0, so each kind of weights takes an object of its own. */
    private static void weightsAreZero(Supplier<PathOdds> made) {
        PathOdds starts = made.get();
        showAll(starts);
        starts.read(0);
        Check.same("S", starts.total(), 0.0);
        PathOdds shows = made.get();
        startAll(shows);
        for (int s = 0; s < 4; s++) {
            shows.read(s);
            Check.same("E(.., " + s + ")", shows.total(), 0.0);
            shows.unread();
        }
        PathOdds moves = made.get();
        startAll(moves);
        showAll(moves);
        Models.readAll(moves, 0, 0);
        Check.same("M", moves.total(), 0.0);
        Check.same("rows by M", moves.possible(), 0);
    }

    private static void startAll(PathOdds x) {
        for (int i = 0; i < x.size(); i++) {
            x.start(i, 1.0);
        }
    }

    private static void showAll(PathOdds x) {
        for (int i = 0; i < x.size(); i++) {
            x.show(i, 0, 1.0);
        }
    }

    private static void statesRefused() {
        int[] wrong = {0, 7, -1, 8, -6, 257, 65537, Integer.MIN_VALUE, Integer.MIN_VALUE + 1, Integer.MAX_VALUE};
        List<String> untouched = Told.by(Models.rich());
        for (int n : wrong) {
            PathOdds x = Models.rich();
            Check.that("states(" + n + ") is refused", !x.states(n));
            Check.that("states(" + n + ") changes nothing", Told.by(x).equals(untouched));
        }
        for (int n = 1; n <= 6; n++) {
            Check.that("states(" + n + ") is not", Models.rich().states(n));
        }
    }

    private static void size() {
        PathOdds x = new PathOdds();
        Check.same("size() of a new object", x.size(), 1);
        for (int n : new int[] {6, 1, 5, 2, 4, 3}) {
            x.states(n);
            Check.same("size()", x.size(), n);
            x.states(0);
            x.states(7);
            Check.same("size() after refusals", x.size(), n);
        }
    }

    private static void startRefused() {
        for (int n = 1; n <= 6; n++) {
            PathOdds x = Models.even(n, 0.5);
            for (int i : new int[] {-1, n, 6, 256, Integer.MIN_VALUE, Integer.MAX_VALUE}) {
                Check.that("start(" + i + ", 1) of " + n + " is refused", !x.start(i, 1.0));
                Check.that("start(" + i + ", 0) of " + n + " is refused", !x.start(i, 0.0));
            }
            for (double w : NO_WEIGHT) {
                Check.that("start(" + (n - 1) + ", " + w + ") is refused", !x.start(n - 1, w));
                Check.that("start(" + n + ", " + w + ") is refused", !x.start(n, w));
            }
            x.read(0);
            Check.same("S(" + (n - 1) + ") is as it was", x.forward(0, n - 1), 0.25);
            Check.same("and so are all", x.total(), n * 0.25);
            Check.that("start(" + (n - 1) + ", 0)", x.start(n - 1, 0.0));
            Check.same("S(" + (n - 1) + ") is 0", x.forward(0, n - 1), 0.0);
            Check.that("start(" + (n - 1) + ", 1)", x.start(n - 1, 1.0));
            Check.same("S(" + (n - 1) + ") is 1", x.forward(0, n - 1), 0.5);
            Check.that("start(0, 1)", x.start(0, 1.0));
            Check.same("S(0) is 1", x.forward(0, 0), 0.5);
        }
    }

    /** -0.0 is from 0 to 1, as doubles are compared; what is told with it is what doubles make of it. */
    private static void weightsBecomeMinusZero() {
        PathOdds start = Models.even(2, 1.0);
        start.read(0);
        Check.that("start(0, -0.0)", start.start(0, -0.0));
        Check.sameBits("A(0, 0) by S(0)", start.forward(0, 0), -0.0);
        Check.sameBits("total() by S(0)", start.total(), 1.0);
        Check.sameBits("share(0, 0) by S(0)", start.share(0, 0), -0.0);
        Check.same("bestState(0) by S(0)", start.bestState(0), 1);
        Check.same("possible() by S(0)", start.possible(), 1);

        PathOdds show = Models.even(2, 1.0);
        Models.readAll(show, 0, 1);
        Check.that("show(1, 1, -0.0)", show.show(1, 1, -0.0));
        Check.sameBits("A(1, 1) by E(1, 1)", show.forward(1, 1), -0.0);
        Check.sameBits("share(1, 1) by E(1, 1)", show.share(1, 1), -0.0);
        Check.same("possible() by E(1, 1)", show.possible(), 2);

        PathOdds move = Models.even(1, 1.0);
        Models.readAll(move, 0, 0);
        Check.that("move(0, 0, -0.0)", move.move(0, 0, -0.0));
        Check.sameBits("best() by M(0, 0), which no sum takes in", move.best(), -0.0);
        Check.sameBits("A(1, 0) by M(0, 0)", move.forward(1, 0), 0.0);
        Check.same("possible() by M(0, 0)", move.possible(), 0);

        PathOdds one = Models.even(1, 1.0);
        one.read(0);
        one.start(0, -0.0);
        Check.sameBits("best() by S(0), a product alone", one.best(), -0.0);
    }

    private static void moveRefused() {
        for (int n = 1; n <= 6; n++) {
            int last = n - 1;
            PathOdds x = Models.even(n, 1.0);
            for (int i : new int[] {-1, n, 6, 256, Integer.MIN_VALUE, Integer.MAX_VALUE}) {
                Check.that("move(" + i + ", 0, 0) of " + n + " is refused", !x.move(i, 0, 0.0));
                Check.that("move(0, " + i + ", 0) of " + n + " is refused", !x.move(0, i, 0.0));
                Check.that("move(" + i + ", " + i + ", 0) of " + n + " is refused", !x.move(i, i, 0.0));
            }
            for (double w : NO_WEIGHT) {
                Check.that("move(" + last + ", 0, " + w + ") is refused", !x.move(last, 0, w));
                Check.that("move(0, " + last + ", " + w + ") is refused", !x.move(0, last, w));
                Check.that("move(" + n + ", 0, " + w + ") is refused", !x.move(n, 0, w));
                Check.that("move(0, " + n + ", " + w + ") is refused", !x.move(0, n, w));
            }
            Models.readAll(x, 0, 0);
            Check.same("all are as they were", x.total(), n * n);
            Check.that("move(" + last + ", 0, 0)", x.move(last, 0, 0.0));
            Check.same("into 0", x.forward(1, 0), n - 1);
            Check.same("out of " + last, x.backward(0, last), n - 1);
            Check.that("move(" + last + ", 0, 1)", x.move(last, 0, 1.0));
            Check.that("move(0, " + last + ", 0.5)", x.move(0, last, 0.5));
            Check.same("into " + last, x.forward(1, last), n - 0.5);
            Check.same("out of 0", x.backward(0, 0), n - 0.5);
        }
    }

    private static void showRefused() {
        for (int n = 1; n <= 6; n++) {
            int last = n - 1;
            PathOdds x = Models.even(n, 1.0);
            for (int i : new int[] {-1, n, 6, 256, Integer.MIN_VALUE, Integer.MAX_VALUE}) {
                Check.that("show(" + i + ", 0, 0) of " + n + " is refused", !x.show(i, 0, 0.0));
                Check.that("show(" + i + ", 4, 0) of " + n + " is refused", !x.show(i, 4, 0.0));
            }
            for (int s : new int[] {-1, 4, 5, 256, Integer.MIN_VALUE, Integer.MAX_VALUE}) {
                Check.that("show(0, " + s + ", 0) is refused", !x.show(0, s, 0.0));
                Check.that("show(" + last + ", " + s + ", 0) is refused", !x.show(last, s, 0.0));
            }
            for (double w : NO_WEIGHT) {
                Check.that("show(" + last + ", 0, " + w + ") is refused", !x.show(last, 0, w));
                Check.that("show(0, 3, " + w + ") is refused", !x.show(0, 3, w));
            }
            for (int s = 0; s < 4; s++) {
                x.read(s);
                Check.same("E(.., " + s + ") is as it was", x.total(), n);
                Check.that("show(" + last + ", " + s + ", 0)", x.show(last, s, 0.0));
                Check.same("E(" + last + ", " + s + ") is 0", x.forward(0, last), 0.0);
                Check.that("show(" + last + ", " + s + ", 1)", x.show(last, s, 1.0));
                Check.same("E(" + last + ", " + s + ") is 1", x.forward(0, last), 1.0);
                x.unread();
            }
        }
    }

    private static void readRefused() {
        for (int length = 0; length <= 12; length++) {
            PathOdds x = Models.even(2, 0.5);
            for (int t = 0; t < length; t++) {
                Check.that("read(" + t % 4 + ") behind " + t, x.read(t % 4));
            }
            List<String> before = Told.by(x);
            for (int s : new int[] {-1, 4, 5, 256, Integer.MIN_VALUE, Integer.MAX_VALUE}) {
                Check.that("read(" + s + ") behind " + length + " is refused", !x.read(s));
            }
            Check.that("the row of " + length + " is as it was", Told.by(x).equals(before));
        }
        PathOdds full = Models.even(2, 0.5);
        full.show(1, 3, 0.75);
        Models.readTimes(full, 3, 12);
        double total = full.total();
        for (int s = 0; s < 4; s++) {
            Check.that("read(" + s + ") behind 12 is refused", !full.read(s));
            Check.same("length()", full.length(), 12);
            Check.same("total()", full.total(), total);
        }
    }

    private static void unreadRefused() {
        PathOdds x = Models.even(1, 1.0);
        Check.that("unread() of no symbols is refused", !x.unread());
        x.show(0, 1, 0.5);
        x.show(0, 2, 0.25);
        Models.readAll(x, 1, 2, 2, 2, 2, 2, 2, 2, 2, 2, 2, 0);
        double due = 0.5;
        for (int k = 0; k < 10; k++) {
            due = due * 0.25;
        }
        Check.that("unread() of a full row", x.unread());
        Check.same("length()", x.length(), 11);
        for (int left = 11; left >= 1; left--) {
            Check.same("total() of the first " + left, x.total(), due);
            due = due * 4.0;
            Check.that("unread() of " + left, x.unread());
            Check.same("length()", x.length(), left - 1);
        }
        for (int k = 0; k < 3; k++) {
            Check.that("unread() of no symbols is refused", !x.unread());
            Check.same("length()", x.length(), 0);
            Check.same("total()", x.total(), 1.0);
        }
        Check.that("read(1)", x.read(1));
        Check.same("the first symbol is the one that was read", x.total(), 0.5);
    }

    private static void length() {
        PathOdds x = new PathOdds();
        Check.same("length() of no symbols", x.length(), 0);
        for (int t = 1; t <= 14; t++) {
            x.read(0);
            Check.same("length() after " + t, x.length(), t < 12 ? t : 12);
        }
        for (int left = 11; left >= -2; left--) {
            x.unread();
            Check.same("length() on the way back", x.length(), left > 0 ? left : 0);
        }
    }

    private static void forwardWithoutPlace() {
        noPlace(PathOdds::forward);
    }

    private static void forwardWithoutState() {
        noState(PathOdds::forward);
    }

    private static void backwardThrows() {
        noPlace(PathOdds::backward);
        noState(PathOdds::backward);
    }

    /** forward, backward or share. */
    private interface Asked {
        double of(PathOdds x, int t, int i);
    }

    /** A row of each length, and a wrong t with right states and wrong ones. */
    private static void noPlace(Asked asked) {
        for (int length = 0; length <= 12; length++) {
            PathOdds x = Models.even(2, 1.0);
            Models.readTimes(x, 0, 12);
            for (int k = length; k < 12; k++) {
                x.unread();
            }
            for (int t : new int[] {-1, length, length + 1, 12, 256, Integer.MIN_VALUE, Integer.MAX_VALUE}) {
                for (int i : new int[] {0, 1, -1, 2}) {
                    Check.throwsExactly("of " + length + " symbols, (" + t + ", " + i + ")",
                        IndexOutOfBoundsException.class, () -> asked.of(x, t, i));
                }
            }
            for (int t = 0; t < length; t++) {
                Check.that("of " + length + " symbols, t = " + t, asked.of(x, t, 1) > 0.0);
            }
        }
    }

    private static void noState(Asked asked) {
        for (int n = 1; n <= 6; n++) {
            PathOdds x = Models.even(6, 1.0);
            x.states(n);
            x.start(0, 1.0);
            x.start(n - 1, 1.0);
            x.show(0, 0, 1.0);
            x.show(n - 1, 0, 1.0);
            x.move(0, n - 1, 1.0);
            x.move(n - 1, 0, 1.0);
            Models.readAll(x, 0, 0, 0);
            for (int t = 0; t < 3; t++) {
                int place = t;
                for (int i : new int[] {-1, n, 6, 256, Integer.MIN_VALUE, Integer.MAX_VALUE}) {
                    Check.throwsExactly("of " + n + " states, (" + t + ", " + i + ")",
                        IllegalArgumentException.class, () -> asked.of(x, place, i));
                }
                Check.that("of " + n + " states, the first", asked.of(x, t, 0) > 0.0);
                Check.that("of " + n + " states, the last", asked.of(x, t, n - 1) > 0.0);
            }
        }
    }

    private static void totalOfNoSymbols() {
        Check.same("total() of a new object", new PathOdds().total(), 1.0);
        PathOdds x = Models.rich();
        x.states(6);
        Check.same("total() after states(6)", x.total(), 1.0);
        PathOdds y = Models.rich();
        Check.that("total() of a row", y.total() < 1.0);
        for (int left = 4; left > 0; left--) {
            y.unread();
            Check.same("total() of " + left, y.total(), y.forward(left - 1, 0) + y.forward(left - 1, 1));
        }
        y.unread();
        Check.same("total() of what is unread", y.total(), 1.0);
    }

    private static void bestOfNoSymbols() {
        Check.same("best() of a new object", new PathOdds().best(), 1.0);
        for (int n = 1; n <= 6; n++) {
            PathOdds x = Models.even(n, 0.5);
            Check.same("best() of no symbols", x.best(), 1.0);
            x.read(2);
            Check.same("best() of one", x.best(), 0.25);
            x.unread();
            Check.same("best() of no symbols again", x.best(), 1.0);
            Models.readTimes(x, 2, 12);
            Check.same("best() of twelve", x.best(), 0x1p-24);
            x.states(n);
            Check.same("best() after states", x.best(), 1.0);
        }
    }

    private static void bestStateWithoutPlace() {
        for (int length = 0; length <= 12; length++) {
            PathOdds x = Models.even(3, 1.0);
            Models.readTimes(x, 0, 12);
            for (int k = length; k < 12; k++) {
                x.unread();
            }
            for (int t : new int[] {-1, length, length + 1, 12, 256, Integer.MIN_VALUE, Integer.MAX_VALUE}) {
                Check.same("of " + length + " symbols, bestState(" + t + ")", x.bestState(t), -1);
            }
            for (int t = 0; t < length; t++) {
                Check.same("of " + length + " symbols, bestState(" + t + ")", x.bestState(t), 0);
            }
        }
    }

    private static void bestStateWhereBestIsZero() {
        for (int n = 1; n <= 6; n++) {
            PathOdds none = Models.even(n, 0.0);
            Models.readTimes(none, 1, 12);
            Check.same("best() of weights of 0", none.best(), 0.0);
            for (int t = 0; t < 12; t++) {
                Check.same("the lowest, bestState(" + t + ")", none.bestState(t), 0);
            }
            Check.same("bestState(12)", none.bestState(12), -1);
            Check.same("bestState(-1)", none.bestState(-1), -1);
        }
        // Nobody shows the last symbol: all tie at the end, but not on the way to it.
        PathOdds unseen = Models.even(3, 1.0);
        unseen.start(0, 0.5);
        unseen.start(1, 0.5);
        for (int i = 0; i < 3; i++) {
            unseen.show(i, 3, 0.0);
        }
        Models.readAll(unseen, 0, 3);
        Check.same("best()", unseen.best(), 0.0);
        Check.same("bestState(1)", unseen.bestState(1), 0);
        Check.same("bestState(0)", unseen.bestState(0), 2);
        PathOdds tiny = Models.even(3, 1e-200);
        tiny.start(2, 1.0);
        tiny.show(2, 0, 1.0);
        Models.readAll(tiny, 0, 1);
        Check.same("best() that comes out as 0", tiny.best(), 0.0);
        Check.same("bestState(1)", tiny.bestState(1), 0);
        Check.same("bestState(0)", tiny.bestState(0), 2);
    }

    private static void shareThrowsAsForward() {
        noPlace(PathOdds::share);
        noState(PathOdds::share);
    }

    private static void shareOfNothing() {
        for (int n = 1; n <= 6; n++) {
            for (double w : new double[] {0.0, -0.0, 1e-200}) {
                PathOdds x = Models.even(n, w);
                int states = n;
                Models.readAll(x, 0, 1);
                Check.same("total() of weights " + w, x.total(), 0.0);
                for (int t = 0; t < 2; t++) {
                    int place = t;
                    for (int state = 0; state < n; state++) {
                        int i = state;
                        Check.throwsExactly("share(" + t + ", " + i + ") of weights " + w,
                            ArithmeticException.class, () -> x.share(place, i));
                    }
                    Check.throwsExactly("share(" + t + ", " + n + ") of weights " + w,
                        IllegalArgumentException.class, () -> x.share(place, states));
                    Check.throwsExactly("share(" + t + ", -1) of weights " + w,
                        IllegalArgumentException.class, () -> x.share(place, -1));
                }
                Check.throwsExactly("share(2, 0)", IndexOutOfBoundsException.class, () -> x.share(2, 0));
                Check.throwsExactly("share(-1, n)", IndexOutOfBoundsException.class, () -> x.share(-1, states));
                x.unread();
                x.unread();
                Check.same("total() of no symbols", x.total(), 1.0);
                Check.throwsExactly("share(0, 0) of no symbols", IndexOutOfBoundsException.class, () -> x.share(0, 0));
            }
        }
        // The first symbol can be shown and the second can't: the total of both counts at each place.
        PathOdds x = Models.even(2, 1.0);
        x.show(0, 1, 0.0);
        x.show(1, 1, 0.0);
        x.read(0);
        Check.same("share(0, 0) of the first", x.share(0, 0), 0.5);
        x.read(1);
        Check.throwsExactly("share(0, 0) of both", ArithmeticException.class, () -> x.share(0, 0));
        x.unread();
        Check.same("share(0, 0) of the first again", x.share(0, 0), 0.5);
    }

    private static void shareOfTheLeastTotal() {
        PathOdds x = Models.even(2, 1.0);
        x.start(0, 0.0);
        x.start(1, Double.MIN_VALUE);
        x.read(0);
        Check.same("total()", x.total(), Double.MIN_VALUE);
        Check.same("share(0, 1)", x.share(0, 1), 1.0);
        Check.same("share(0, 0)", x.share(0, 0), 0.0);
        x.read(0);
        Check.same("share(0, 1) of two", x.share(0, 1), 1.0);
        Check.same("share(1, 1) of two", x.share(1, 1), 0.5);
    }

    private static void possibleOfNoSymbols() {
        Check.same("possible() of a new object", new PathOdds().possible(), 1);
        for (int n = 1; n <= 6; n++) {
            for (double w : new double[] {0.0, Double.MIN_VALUE, 1.0}) {
                PathOdds x = Models.even(n, w);
                Check.same("possible() of no symbols", x.possible(), 1);
                x.read(0);
                Check.same("possible() of one", x.possible(), w > 0.0 ? n : 0);
                x.unread();
                Check.same("possible() of no symbols again", x.possible(), 1);
                x.read(3);
                x.states(n);
                Check.same("possible() after states", x.possible(), 1);
            }
        }
    }

    private static void possibleOfTheLongestRow() {
        PathOdds x = Models.even(6, 1.0);
        Models.readTimes(x, 0, 12);
        Check.same("possible()", x.possible(), 2176782336L);
        x.start(0, 0.0);
        Check.same("possible() without one beginning", x.possible(), 1813985280L);
    }

    private static void lastOfManyCalls() {
        PathOdds x = new PathOdds();
        x.start(0, 0.5);
        x.show(0, 0, 0.5);
        for (int k = 0; k < 254; k++) {
            x.read(0);
            x.unread();
        }
        Check.that("call 511", x.read(0));
        Check.same("call 512", x.total(), 0.25);
        PathOdds y = Models.even(6, 1.0);
        for (int calls = 67; calls < 511; calls++) {
            y.read(0);
        }
        Check.same("call 512", y.possible(), 2176782336L);
    }
}
