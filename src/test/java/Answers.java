import java.util.ArrayList;
import java.util.List;
import java.util.NoSuchElementException;
import java.util.function.Supplier;

/** All that an object answers to calls that change nothing: two that are alike answer alike. */
final class Answers {
    /** Some of the calls, fewer than an object may be used for. */
    private interface Questions {
        void ask(ParitySpread x, List<Integer> answers);
    }

    private Answers() {
    }

    /** Each time a new object is made, and asked no more than 512 calls allow. */
    static void same(Check c, Supplier<ParitySpread> got, Supplier<ParitySpread> want) {
        same(c, "in all", got, want, Answers::inAll);
        same(c, "of stripes", got, want, Answers::ofStripes);
        for (int i = 0; i <= 4; i++) {
            int what = i;
            same(c, "of units, what " + what, got, want, (x, answers) -> ofUnits(x, what, answers));
            same(c, "of data, what " + what, got, want, (x, answers) -> ofData(x, what, answers));
        }
        same(c, "of places", got, want, Answers::ofPlaces);
        same(c, "of disks", got, want, Answers::ofDisks);
        same(c, "of two disks", got, want, Answers::ofTwoDisks);
        same(c, "of costs", got, want, Answers::ofCosts);
        same(c, "of the lost", got, want, Answers::ofLost);
    }

    private static void same(Check c, String which, Supplier<ParitySpread> got, Supplier<ParitySpread> want,
            Questions questions) {
        List<Integer> these = new ArrayList<>();
        List<Integer> those = new ArrayList<>();
        questions.ask(got.get(), these);
        questions.ask(want.get(), those);
        c.due("answers " + which, these.size(), those.size());
        for (int i = 0; i < Math.min(these.size(), those.size()); i++) {
            c.due("answer " + i + " " + which, these.get(i), those.get(i));
        }
    }

    private static void inAll(ParitySpread x, List<Integer> answers) {
        for (int what = 0; what <= 12; what++) {
            answers.add(x.count(what));
        }
        for (int what = 0; what <= 2; what++) {
            answers.add(x.judged(what));
            answers.add(x.spread(what));
            answers.add(x.loads(3, 99, what));
        }
        for (int more = 1; more <= 3; more++) {
            answers.add(x.grow(more, 0));
            answers.add(x.grow(more, 1));
        }
        for (int size = 2; size <= 5; size++) {
            answers.add(x.seek(size));
        }
        for (int block = 0; block < 7; block++) {
            for (int by = 1; by <= 12; by++) {
                answers.add(x.differs(block, by));
            }
        }
        answers.add(x.even());
        answers.add(x.family());
        answers.add(x.risk());
        answers.add(x.who());
        answers.add(x.ask());
    }

    private static void ofStripes(ParitySpread x, List<Integer> answers) {
        for (int s = 0; s <= 40; s++) {
            for (int what = 0; what <= 5; what++) {
                answers.add(x.stripe(s, what));
            }
        }
    }

    private static void ofUnits(ParitySpread x, int what, List<Integer> answers) {
        for (int s = 0; s <= 40; s++) {
            for (int u = 0; u <= 5; u++) {
                answers.add(x.unit(s, u, what));
            }
        }
    }

    private static void ofData(ParitySpread x, int what, List<Integer> answers) {
        for (int d = 0; d <= 160; d++) {
            answers.add(x.datum(d, what));
        }
    }

    private static void ofPlaces(ParitySpread x, List<Integer> answers) {
        for (int d = 0; d <= 13; d++) {
            for (int p = 0; p < 28; p++) {
                answers.add(x.at(d, p));
            }
        }
    }

    private static void ofDisks(ParitySpread x, List<Integer> answers) {
        for (int d = 0; d <= 13; d++) {
            for (int what = 0; what <= 5; what++) {
                answers.add(x.disk(d, what));
            }
            for (int readers = 0; readers <= 9; readers++) {
                answers.add(x.time(d, readers));
            }
            answers.add(x.worst(d));
            answers.add(x.bears(d) ? 1 : 0);
        }
    }

    private static void ofTwoDisks(ParitySpread x, List<Integer> answers) {
        for (int d = 0; d <= 13; d++) {
            for (int other = 0; other <= 13; other++) {
                answers.add(x.pairs(d, other));
                answers.add(x.would(d, other));
            }
        }
    }

    private static void ofCosts(ParitySpread x, List<Integer> answers) {
        for (int d = 0; d <= 160; d++) {
            answers.add(x.cost(d));
            answers.add(x.price(d));
        }
    }

    private static void ofLost(ParitySpread x, List<Integer> answers) {
        for (int i = 0; i <= 200; i++) {
            try {
                answers.add(x.lost(i));
            } catch (NoSuchElementException e) {
                answers.add(-9);
            }
        }
    }
}
