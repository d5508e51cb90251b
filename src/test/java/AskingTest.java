/** Promises 5 and 14 to 23: calls that ask, rightly or wrongly, change nothing; a SCHEDULE only which one is at hand. */
public final class AskingTest {
    private static final int[] NUMBERS = {Integer.MIN_VALUE, -1, 0, 1, 3, 4, 5, 6, 24, 300, 3600, Integer.MAX_VALUE};

    public static void main(String[] args) {
        for (int number : NUMBERS) {
            of(number);
        }
        schedules();
        twice();
        Due.end();
    }

    private static void of(int k) {
        Refused.asked("place() and count(" + k + ")", x -> {
            x.place();
            x.count(k);
        });
        Refused.asked("way with " + k, x -> {
            x.way(k, 0, 0);
            x.way(0, k, 0);
            x.way(0, 0, k);
        });
        Refused.asked("sun with " + k, x -> {
            x.sun(true, k, 0, 0);
            x.sun(false, 0, k, 0);
            x.sun(true, 0, 0, k);
        });
        Refused.asked("correction with " + k, x -> {
            x.correction(k, 0, 0, 2);
            x.correction(0, k, 0, 2);
            x.correction(0, 0, k, 2);
            x.correction(0, 0, 1, k);
        });
        Refused.asked("strength with " + k, x -> {
            x.strength(k, 1, 0, 5, 12, 4);
            x.strength(0, k, 0, 5, 12, 4);
            x.strength(0, 1, k, 5, 12, 4);
            x.strength(0, 1, 0, k, 12, 4);
            x.strength(0, 1, 0, 5, k, 4);
            x.strength(0, 1, 0, 5, 12, k);
        });
        Refused.asked("yields and rule with " + k, x -> {
            x.yields(k, 2, 0, 5, 12, 4);
            x.yields(0, k, 0, 5, 12, 4);
            x.yields(0, 2, k, 5, 12, 4);
            x.yields(0, 2, 0, k, 12, 4);
            x.yields(0, 2, 0, 5, k, 4);
            x.yields(0, 2, 0, 5, 12, k);
            x.rule(k, 2, 0, 5, 12, 1);
            x.rule(0, 2, 0, 5, 12, k);
        });
        Refused.asked("slot and listeners with " + k, x -> {
            x.slot(k, 0, 0);
            x.slot(12, k, 0);
            x.slot(12, 0, k);
            x.listeners(k);
        });
    }

    /** Another SCHEDULE is made between, and then the furnished house's own is at hand again. */
    private static void schedules() {
        for (int n = 0; n < 5; n++) {
            int known = n;
            Refused.asked("schedule(5, " + n + "), then its own", x -> {
                x.schedule(5, known);
                x.schedule(95, known);
                x.schedule(5, 3);
            });
        }
    }

    /** The same call twice has the same answer. */
    private static void twice() {
        House x = States.furnished();
        for (int n = 4; n >= 0; n--) {
            Due.is("schedule by " + n, x.schedule(5, n), x.schedule(5, n));
            Due.is("slot by " + n, x.slot(12, 0, 3), x.slot(12, 0, 3));
            Due.is("correction by " + n, x.correction(0, 0, 1, n), x.correction(0, 0, 1, n));
        }
    }
}
