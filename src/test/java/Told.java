import java.util.ArrayList;
import java.util.List;

/** All that an object tells, written out, so that two objects, or one before and after a call, can be held together. */
final class Told {
    /** A question to an object. */
    interface Question {
        Object to(PathOdds x);
    }

    private Told() {
    }

    /** The questions whose answers there are for n states and T symbols, and those just outside. */
    static List<Question> questions(int n, int length) {
        List<Question> all = new ArrayList<>();
        all.add(PathOdds::size);
        all.add(PathOdds::length);
        all.add(PathOdds::total);
        all.add(PathOdds::best);
        all.add(PathOdds::possible);
        for (int place = -1; place <= length; place++) {
            int t = place;
            all.add(x -> x.bestState(t));
            for (int state = 0; state < n; state++) {
                int i = state;
                all.add(x -> x.forward(t, i));
                all.add(x -> x.backward(t, i));
                all.add(x -> x.share(t, i));
            }
        }
        return all;
    }

    static String by(PathOdds x, Question question) {
        try {
            return String.valueOf(question.to(x));
        } catch (IndexOutOfBoundsException | IllegalArgumentException | ArithmeticException e) {
            return e.getClass().getName();
        }
    }

    static List<String> by(PathOdds x) {
        List<String> answers = new ArrayList<>();
        for (Question question : questions(x.size(), x.length())) {
            answers.add(by(x, question));
        }
        return answers;
    }
}
