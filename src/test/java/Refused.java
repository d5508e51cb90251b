import java.util.ArrayList;
import java.util.List;
import java.util.function.Predicate;
import java.util.function.Supplier;
import java.util.function.ToIntFunction;

/** Refused calls: what they answer, and that nothing has happened, as later calls show. */
final class Refused {
    private Refused() {
    }

    /** The call answers NONE, and leaves a furnished house as it was. */
    static void none(String call, ToIntFunction<House> refused) {
        none(call, States::furnished, refused);
    }

    static void none(String call, Supplier<House> state, ToIntFunction<House> refused) {
        House x = state.get();
        Due.is(call, refused.applyAsInt(x), -1);
        unchanged(call, x, state.get());
    }

    /** The call answers false, and leaves a furnished house as it was. */
    static void no(String call, Predicate<House> refused) {
        House x = States.furnished();
        Due.is(call, refused.test(x), false);
        unchanged(call, x, States.furnished());
    }

    private static void unchanged(String call, House x, House untouched) {
        List<Integer> got = answers(x);
        List<Integer> due = answers(untouched);
        for (int k = 0; k < due.size(); k++) {
            Due.is("behind " + call + ": answer " + k + " of those that show the state", got.get(k), due.get(k));
        }
    }

    /** Some 200 calls, those that only ask ahead of those that change what is there. */
    private static List<Integer> answers(House x) {
        List<Integer> all = new ArrayList<>();
        int facts = x.count(4);
        for (int what = 0; what < 8; what++) {
            all.add(x.count(what));
        }
        all.add(x.place());
        atHand(x, all);
        paths(x, all, facts);
        yields(x, all, facts);
        all.add(x.schedule(5, facts));
        atHand(x, all);
        growing(x, all);
        text(x, all, facts);
        return all;
    }

    private static void atHand(House x, List<Integer> all) {
        for (int hour = 9; hour < 15; hour++) {
            all.add(x.listeners(hour));
        }
        for (int p = 0; p < 3; p++) {
            for (int what = 0; what < 4; what++) {
                all.add(x.slot(12, p, what));
            }
        }
    }

    private static void paths(House x, List<Integer> all, int facts) {
        for (int k = 0; k < 4; k++) {
            all.add(x.way(0, k, 0));
            all.add(x.way(1, k, 2));
            all.add(x.way(k, 1, 0));
            all.add(x.sun(false, k, 95, 4));
            all.add(x.sun(true, k, 95, 4));
            all.add(x.strength(0, k, 0, 5, 12, facts));
            all.add(x.strength(1, k, 1, 5, 12, facts));
            all.add(x.strength(0, 1, 0, 90 * k, 0, facts));
        }
        for (int band = 0; band < 6; band++) {
            all.add(x.correction(0, 0, band, facts));
        }
        all.add(x.correction(1, 1, 4, facts));
        all.add(x.correction(0, 0, 1, facts + 1));
    }

    private static void yields(House x, List<Integer> all, int facts) {
        for (int band = 0; band < 6; band++) {
            all.add(x.yields(0, band, 0, 5, 12, facts));
            all.add(x.yields(0, band, 0, 5, 11, facts));
            all.add(x.rule(0, band, 0, 5, 12, facts - 1));
        }
        all.add(x.rule(0, 2, 0, 5, 12, 1));
        all.add(x.rule(0, 5, 0, 5, 12, 3));
    }

    private static void growing(House x, List<Integer> all) {
        for (int season = 0; season < 4; season++) {
            all.add(x.cell(season, 0, 1) ? 1 : 0);
            all.add(x.cell(season, 2, 1) ? 1 : 0);
            all.add(x.cell(season, 3, 1) ? 1 : 0);
            all.add(x.cell(season, 269, 1) ? 1 : 0);
        }
        all.add(x.clock(4) ? 1 : 0);
        all.add(x.clock(5) ? 1 : 0);
        all.add(x.ground(1, 1, 1));
        all.add(x.ground(1, 1, 0));
        all.add(x.mast(1, 1));
        all.add(x.programme(1, 0, 1));
        all.add(x.report(0, 0, 1, 12, 40));
        all.add(x.notice(0, 0, 24, 0, 0));
    }

    private static void text(House x, List<Integer> all, int facts) {
        all.add(x.correction(0, 0, 1, facts));
        all.add(x.yields(0, 0, 0, 5, 12, facts));
        all.add(x.feed(0x20202020, 0x77652079, 0x69656c64, 0x3b202020, 0x20202020));
        all.add(x.read());
        all.add(x.place());
        all.add(x.count(5));
        all.add(x.rule(0, 2, 0, 5, 12, 1));
    }
}
