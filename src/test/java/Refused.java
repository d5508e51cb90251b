import java.util.ArrayList;
import java.util.List;
import java.util.function.Consumer;
import java.util.function.Predicate;
import java.util.function.Supplier;
import java.util.function.ToIntFunction;

/** Refused calls: what they answer, and that nothing has happened, as some 140 later calls show. */
final class Refused {
    private final House x;
    private final List<String> answers = new ArrayList<>();

    private Refused(House x) {
        this.x = x;
    }

    /** The call answers NONE, and leaves a furnished house as it was. */
    static void none(String call, ToIntFunction<House> refused) {
        none(call, States::furnished, refused);
    }

    static void none(String call, Supplier<House> state, ToIntFunction<House> refused) {
        House x = state.get();
        Due.is(call, refused.applyAsInt(x), -1);
        unchanged(call, x, state.get());
    }

    /** The call answers false, and leaves a furnished house as it was. */
    static void no(String call, Predicate<House> refused) {
        House x = States.furnished();
        Due.is(call, refused.test(x), false);
        unchanged(call, x, States.furnished());
    }

    /** Calls that only ask leave a furnished house as it was. */
    static void asked(String calls, Consumer<House> asking) {
        House x = States.furnished();
        asking.accept(x);
        unchanged(calls, x, States.furnished());
    }

    private static void unchanged(String call, House touched, House untouched) {
        List<String> got = new Refused(touched).allAnswers();
        List<String> due = new Refused(untouched).allAnswers();
        for (int k = 0; k < due.size(); k++) {
            String what = "behind " + call + " " + got.get(k) + ", without it " + due.get(k) + ": the same";
            Due.is(what, got.get(k).equals(due.get(k)), true);
        }
    }

    private void add(String call, int answer) {
        answers.add(call + " answers " + answer);
    }

    private void add(String call, boolean answer) {
        add(call, answer ? 1 : 0);
    }

    /** Calls that only ask go ahead of those that change what is there. */
    private List<String> allAnswers() {
        int facts = x.count(4);
        for (int what = 0; what < 8; what++) {
            add("count(" + what + ")", x.count(what));
        }
        add("place()", x.place());
        atHand();
        paths(facts);
        yields(facts);
        add("schedule(5, all)", x.schedule(5, facts));
        atHand();
        growing();
        text(facts);
        return answers;
    }

    private void atHand() {
        for (int hour = 9; hour < 15; hour++) {
            add("listeners(" + hour + ")", x.listeners(hour));
        }
        for (int p = 0; p < 3; p++) {
            for (int what = 0; what < 4; what++) {
                add("slot(12, " + p + ", " + what + ")", x.slot(12, p, what));
            }
        }
    }

    private void paths(int facts) {
        for (int k = 0; k < 4; k++) {
            add("way(0, " + k + ", 0)", x.way(0, k, 0));
            add("way(1, " + k + ", 2)", x.way(1, k, 2));
            add("way(" + k + ", 1, 0)", x.way(k, 1, 0));
            add("sun(false, " + k + ", 95, 4)", x.sun(false, k, 95, 4));
            add("sun(true, " + k + ", 95, 4)", x.sun(true, k, 95, 4));
            add("strength(0, " + k + ", 0, 5, 12, all)", x.strength(0, k, 0, 5, 12, facts));
            add("strength(1, " + k + ", 1, 5, 12, all)", x.strength(1, k, 1, 5, 12, facts));
            add("strength(0, 1, 0, " + 90 * k + ", 0, all)", x.strength(0, 1, 0, 90 * k, 0, facts));
        }
        for (int band = 0; band < 6; band++) {
            add("correction(0, 0, " + band + ", all)", x.correction(0, 0, band, facts));
        }
        add("correction(1, 1, 4, all)", x.correction(1, 1, 4, facts));
        add("correction(0, 0, 1, all + 1)", x.correction(0, 0, 1, facts + 1));
    }

    private void yields(int facts) {
        for (int band = 0; band < 6; band++) {
            add("yields(0, " + band + ", 0, 5, 12, all)", x.yields(0, band, 0, 5, 12, facts));
            add("yields(0, " + band + ", 0, 5, 11, all)", x.yields(0, band, 0, 5, 11, facts));
            add("rule(0, " + band + ", 0, 5, 12, last)", x.rule(0, band, 0, 5, 12, facts - 1));
        }
        add("rule(0, 2, 0, 5, 12, 1)", x.rule(0, 2, 0, 5, 12, 1));
        add("rule(0, 5, 0, 5, 12, 3)", x.rule(0, 5, 0, 5, 12, 3));
    }

    private void growing() {
        for (int season = 0; season < 4; season++) {
            for (int i : new int[] {0, 2, 3, 269}) {
                add("cell(" + season + ", " + i + ", 1)", x.cell(season, i, 1));
            }
        }
        add("clock(4)", x.clock(4));
        add("clock(5)", x.clock(5));
        add("ground(1, 1, 1)", x.ground(1, 1, 1));
        add("ground(1, 1, 0)", x.ground(1, 1, 0));
        add("mast(1, 1)", x.mast(1, 1));
        add("programme(1, 0, 1)", x.programme(1, 0, 1));
        add("report(0, 0, 1, 12, 40)", x.report(0, 0, 1, 12, 40));
        add("notice(0, 0, 24, 0, 0)", x.notice(0, 0, 24, 0, 0));
    }

    private void text(int facts) {
        add("correction(0, 0, 1, all)", x.correction(0, 0, 1, facts));
        add("yields(0, 0, 0, 5, 12, all)", x.yields(0, 0, 0, 5, 12, facts));
        add("feed('    we yield;       ')", x.feed(0x20202020, 0x77652079, 0x69656c64, 0x3b202020, 0x20202020));
        add("read()", x.read());
        add("place()", x.place());
        add("count(5)", x.count(5));
        add("rule(0, 2, 0, 5, 12, 1)", x.rule(0, 2, 0, 5, 12, 1));
    }
}
