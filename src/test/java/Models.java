/** Models that several tests begin with. */
final class Models {
    private Models() {
    }

    /** All weights of n states are w. */
    static PathOdds even(int n, double w) {
        PathOdds x = new PathOdds();
        x.states(n);
        for (int i = 0; i < n; i++) {
            x.start(i, w);
            for (int j = 0; j < n; j++) {
                x.move(i, j, w);
            }
            for (int s = 0; s < 4; s++) {
                x.show(i, s, w);
            }
        }
        return x;
    }

    /** Two states, no two weights alike, and each symbol in the row: every weight shows in some answer. */
    static PathOdds rich() {
        PathOdds x = new PathOdds();
        x.states(2);
        x.start(0, 0.31);
        x.start(1, 0.67);
        x.move(0, 0, 0.43);
        x.move(0, 1, 0.59);
        x.move(1, 0, 0.83);
        x.move(1, 1, 0.19);
        for (int s = 0; s < 4; s++) {
            x.show(0, s, 0.11 + s * 0.21);
            x.show(1, s, 0.97 - s * 0.23);
        }
        readAll(x, 2, 0, 3, 1, 0);
        return x;
    }

    static void readAll(PathOdds x, int... symbols) {
        for (int s : symbols) {
            Check.that("read(" + s + ")", x.read(s));
        }
    }

    static void readTimes(PathOdds x, int s, int times) {
        for (int k = 0; k < times; k++) {
            Check.that("read(" + s + ")", x.read(s));
        }
    }
}
