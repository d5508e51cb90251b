/** Promises 20, 21 and 22: THE SCHEDULE. */
public final class ScheduleTest {
    public static void main(String[] args) {
        atHand();
        bands();
        turning();
        hourByHour();
        listenersAheadOfStrength();
        strengthAheadOfOrder();
        leastMasts();
        yielding();
        knownBy();
        laterProgramme();
        wrongOnes();
        fullHouse();
        Due.end();
    }

    /** LAND 0 with 100 and SITE 0 at one place, in belt 3; every cell of SEASON 0 is there. */
    private static House house(int... powers) {
        House x = new House();
        x.ground(0, 3, 100);
        x.ground(0, 3, 0);
        for (int power : powers) {
            x.mast(0, power);
        }
        x.sheet(0, 270);
        return x;
    }

    private static void slots(String when, House x, int hour, int p, int... due) {
        for (int what = 0; what < due.length; what++) {
            Due.is(when + " slot(" + hour + ", " + p + ", " + what + ")", x.slot(hour, p, what), due[what]);
        }
    }

    private static void atHand() {
        House x = house(5);
        x.programme(0, 10, 14);
        slots("none at hand", x, 12, 0, -1, -1, -1, -1);
        Due.is("none at hand", x.listeners(12), -1);
        Due.is("not heard", x.schedule(0, 0), 0);
        slots("not heard", x, 12, 0, -1, -1, -1, 0);
        Due.is("not heard", x.listeners(12), 0);
        x.cell(0, House.noon(3), 5);
        slots("still the old one", x, 12, 0, -1, -1, -1, 0);
        Due.is("heard at 10", x.schedule(0, 0), 400);
        slots("heard", x, 12, 0, 0, 3, 0, 10);
        slots("ahead", x, 9, 0, -1, -1, -1, 0);
        slots("behind", x, 14, 0, -1, -1, -1, 0);
        Due.is("listeners(13)", x.listeners(13), 100);
        Due.is("listeners(14)", x.listeners(14), 0);
        Due.is("no such day", x.schedule(3600, 0), -1);
        slots("the old one stays", x, 12, 0, 0, 3, 0, 10);
        x.cell(0, House.noon(3), 4);
        Due.is("not heard at 9", x.schedule(0, 0), 0);
    }

    private static void bands() {
        House x = house(1);
        x.programme(0, 12, 13);
        x.cell(0, House.noon(1), 20);
        x.cell(0, House.noon(4), 20);
        x.cell(0, House.noon(5), 19);
        x.schedule(0, 0);
        slots("the least of equal ones", x, 12, 0, 0, 1, 0, 21);
        x.cell(0, House.noon(5), 21);
        x.schedule(0, 0);
        slots("the greatest", x, 12, 0, 0, 5, 0, 22);
        x.report(0, 0, 5, 12, 0);
        x.schedule(0, 1);
        slots("put right", x, 12, 0, 0, 1, 0, 21);
        x.sheet(0, House.noon(4));
        x.cell(0, House.noon(3), 30);
        x.schedule(0, 1);
        slots("a short sheet", x, 12, 0, 0, 3, 0, 31);
    }

    /** LAND 0 at the SITE's place (AIM 0), LAND 1 to its east (AIM 2), LAND 2 to its north (AIM 0). */
    private static House threeLands(int... powers) {
        House x = house(powers);
        x.ground(2, 3, 50);
        x.ground(0, 2, 20);
        x.flat(0, 20);
        return x;
    }

    private static void turning() {
        House x = threeLands(1);
        x.programme(0, 0, 1);
        x.programme(1, 1, 4);
        x.programme(2, 4, 6);
        x.programme(0, 6, 7);
        Due.is("total", x.schedule(0, 0), 100 + 50 * 2 + 20 + 100);
        int[] due = {100, 0, 50, 50, 0, 20, 100, 0};
        for (int hour = 0; hour < due.length; hour++) {
            Due.is("listeners(" + hour + ")", x.listeners(hour), due[hour]);
        }
        slots("to the east", x, 2, 1, 0, 0, 2, 21);
        slots("same aim at once", x, 6, 3, 0, 0, 0, 21);
    }

    /** The HOUR's own listeners are the most, though less is got later. */
    private static void hourByHour() {
        House x = threeLands(1);
        x.programme(2, 0, 1);
        x.programme(1, 1, 2);
        Due.is("total", x.schedule(0, 0), 20);
        slots("hour 0", x, 0, 0, 0, 0, 0, 21);
        slots("hour 1", x, 1, 1, -1, -1, -1, 0);
    }

    private static void listenersAheadOfStrength() {
        House x = threeLands(1, 9);
        x.programme(1, 0, 1);
        x.programme(2, 0, 1);
        x.programme(0, 0, 1);
        Due.is("two of three", x.schedule(0, 0), 150);
        slots("programme 0", x, 0, 0, 0, 0, 2, 21);
        slots("programme 1", x, 0, 1, -1, -1, -1, 0);
        slots("programme 2", x, 0, 2, 1, 0, 0, 29);
        oneMoreListener();
    }

    /** One listener more outweighs the greatest STRENGTHS together. */
    private static void oneMoreListener() {
        House x = house(9, 9, 9, 9, 9, 9);
        x.ground(5, 3, 101);
        x.cell(0, House.noon(0), 99);
        x.cell(0, (x.sun(true, 0, 0, 12) * 3 + x.sun(false, 1, 0, 12)) * 30 + 6, 1);
        for (int p = 0; p < 5; p++) {
            x.programme(0, 12, 13);
        }
        for (int p = 0; p < 5; p++) {
            x.programme(1, 12, 13);
        }
        Due.is("five far, one near", x.schedule(0, 0), 5 * 101 + 100);
        for (int p = 0; p < 10; p++) {
            Due.is("strength of " + p, x.slot(12, p, 3), p == 0 ? 108 : p < 5 ? 0 : 10);
        }
    }

    /** MAST 1 alone reaches LAND 1 at HOUR 12: then LAND 0 has to take the weaker one, or none. */
    private static void strengthAheadOfOrder() {
        House x = house(3, 9);
        x.ground(5, 3, 60);
        x.programme(0, 12, 13);
        x.programme(1, 12, 13);
        x.cell(0, House.noon(0), 30);
        x.cell(0, (x.sun(true, 0, 0, 12) * 3 + x.sun(false, 1, 0, 12)) * 30 + 6, 3);
        Due.is("both", x.schedule(0, 0), 160);
        slots("programme 0", x, 12, 0, 0, 0, 0, 33);
        slots("programme 1", x, 12, 1, 1, 0, 2, 12);
        House y = house(3, 9, 5);
        y.programme(0, 12, 13);
        y.cell(0, House.noon(0), 30);
        y.schedule(0, 0);
        slots("the strongest", y, 12, 0, 1, 0, 0, 39);
    }

    private static void leastMasts() {
        House x = house(5, 5, 5);
        x.ground(0, 3, 100);
        x.flat(0, 20);
        x.programme(1, 0, 1);
        x.programme(0, 0, 2);
        x.programme(1, 0, 1);
        x.programme(0, 0, 1);
        Due.is("total", x.schedule(0, 0), 400);
        for (int p = 0; p < 3; p++) {
            slots("least", x, 0, p, p, 0, 0, 25);
        }
        slots("none behind all", x, 0, 3, -1, -1, -1, 0);
        slots("anew", x, 1, 1, 0, 0, 0, 25);
    }

    private static void yielding() {
        House x = house(5, 9);
        x.programme(0, 10, 14);
        x.cell(0, House.noon(2), 30);
        x.cell(0, House.noon(4), 20);
        x.notice(2, 12, 13, 0, 0);
        x.schedule(0, 1);
        slots("free", x, 11, 0, 1, 2, 0, 39);
        slots("yields", x, 12, 0, 1, 4, 0, 29);
        x.notice(4, 12, 13, 0, 0);
        Due.is("no band left", x.schedule(0, 2), 300);
        slots("no band left", x, 12, 0, -1, -1, -1, 0);
        x.readText("they yield if power == 5 and band == 2;");
        Due.is("one is left", x.schedule(0, 2), 400);
        slots("the weaker mast", x, 12, 0, 0, 2, 0, 35);
        x.cell(0, House.noon(0), 1);
        x.schedule(0, 2);
        slots("heard by mast 1 at 10", x, 12, 0, 0, 2, 0, 35);
        x.readText("");
        x.schedule(0, 2);
        slots("heard by mast 1 at 10", x, 12, 0, 1, 0, 0, 10);
    }

    private static void knownBy() {
        House x = house(5);
        x.programme(0, 12, 13);
        x.cell(0, House.noon(0), 10);
        x.report(0, 0, 0, 12, 5);
        x.report(0, 0, 0, 12, 3);
        x.notice(0, 12, 13, 0, 0);
        int[] due = {15, 10, 0, 0};
        for (int n = 0; n < 4; n++) {
            Due.is("known by " + n, x.schedule(0, n), due[n] == 0 ? 0 : 100);
            Due.is("known by " + n, x.slot(12, 0, 3), due[n]);
        }
        Due.is("known by 4", x.schedule(0, 4), -1);
        Due.is("known by -1", x.schedule(0, -1), -1);
        Due.is("other season", x.schedule(90, 0), 0);
        Due.is("next year", x.schedule(360, 0), 100);
    }

    private static void laterProgramme() {
        House x = house(5);
        x.programme(0, 12, 13);
        x.flat(0, 20);
        x.schedule(0, 0);
        slots("not there yet", x, 12, 1, -1, -1, -1, -1);
        x.programme(0, 12, 13);
        slots("none of that schedule", x, 12, 1, -1, -1, -1, -1);
        slots("none of that schedule", x, 11, 1, -1, -1, -1, -1);
        x.schedule(3600, 0);
        slots("the old one is still at hand", x, 12, 1, -1, -1, -1, -1);
        x.schedule(0, 0);
        slots("without a mast", x, 12, 1, -1, -1, -1, 0);
        slots("not its hour", x, 11, 1, -1, -1, -1, 0);
        x.mast(0, 9);
        Due.is("both", x.schedule(0, 0), 200);
        slots("now", x, 12, 1, 1, 0, 0, 29);
    }

    private static void wrongOnes() {
        House x = house(5);
        x.programme(0, 0, 24);
        x.flat(0, 20);
        Due.is("a whole day", x.schedule(0, 0), 2400);
        int[][] wrong = {{-1, 0, 0}, {24, 0, 0}, {0, -1, 0}, {0, 1, 0}, {0, 0, -1}, {0, 0, 4}, {24, 0, 3}, {0, 1, 3}, {0, 10, 3}};
        for (int[] w : wrong) {
            Due.is("wrong slot", x.slot(w[0], w[1], w[2]), -1);
        }
        Due.is("listeners(-1)", x.listeners(-1), -1);
        Due.is("listeners(24)", x.listeners(24), -1);
        Due.is("day -1", x.schedule(-1, 0), -1);
        Due.is("day 3600", x.schedule(3600, 0), -1);
        Due.is("n 1", x.schedule(0, 1), -1);
        House empty = new House();
        Due.is("an empty house", empty.schedule(0, 0), 0);
        Due.is("an empty house", empty.listeners(23), 0);
        Due.is("an empty house", empty.slot(0, 0, 3), -1);
    }

    private static void fullHouse() {
        House x = new House();
        for (int k = 0; k < 8; k++) {
            x.ground(3 * k, k % 7, 10000);
        }
        for (int k = 0; k < 4; k++) {
            x.ground(6 * k, k, 0);
        }
        for (int m = 0; m < 6; m++) {
            x.mast(m % 4, 9);
        }
        x.flat(2, 99);
        for (int p = 0; p < 10; p++) {
            x.programme(p % 8, 0, 24);
        }
        Due.is("the most", x.schedule(200, 0), 24 * 60000);
        Due.is("the most", x.listeners(23), 60000);
    }
}
