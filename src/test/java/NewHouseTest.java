/** Promises 1 and 23 and the number of calls, edge by edge: what a new object answers, count, the 512th call. */
public final class NewHouseTest {
    private static final int MIN = Integer.MIN_VALUE;
    private static final int MAX = Integer.MAX_VALUE;
    private static final int UNKNOWN = -1000000;

    public static void main(String[] args) {
        nothingIsThere();
        sheetsAreMissing();
        noRules();
        clockIsZero();
        noSchedule();
        eachByItself();
        countOfEach();
        countOfOthers();
        lastCall();
        Due.end();
    }

    /** "Nothing is there". */
    private static void nothingIsThere() {
        House x = new House();
        Due.is("NONE", WaveHouse.NONE, -1);
        for (int what = 0; what < 8; what++) {
            Due.is("count(" + what + ")", x.count(what), 0);
        }
        Due.is("no FAULT", x.place(), -1);
        Due.is("no byte goes", x.back(1), -1);
        Due.is("no SITE for a MAST", x.mast(0, 1), -1);
        Due.is("no LAND for a PROGRAMME", x.programme(0, 0, 1), -1);
        Due.is("no path for a REPORT", x.report(0, 0, 0, 0, 0), -1);
        Due.is("no LAND for a NOTICE", x.notice(0, 0, 1, 0, 0), -1);
        Due.is("no WAY", x.way(0, 0, 0), -1);
        Due.is("no LAND's SUN", x.sun(false, 0, 0, 0), -1);
        Due.is("no SITE's SUN", x.sun(true, 0, 0, 0), -1);
        Due.is("no path", x.correction(0, 0, 0, 0), UNKNOWN);
        Due.is("no STRENGTH", x.strength(0, 0, 0, 0, 0, 0), UNKNOWN);
        Due.is("nobody to yield to", x.yields(0, 0, 0, 0, 0, 0), -1);
        Due.is("no RULE", x.rule(0, 0, 0, 0, 0, 0), -1);
        for (int what = 0; what < 8; what++) {
            Due.is("count(" + what + ") behind all that", x.count(what), 0);
        }
    }

    /** "SHEETS are MISSING". */
    private static void sheetsAreMissing() {
        House x = States.small();
        for (int season = 0; season < 4; season++) {
            Due.is("a cell of SEASON " + season, x.cell(season, 0, 0), false);
            Due.is("STRENGTH in SEASON " + season, x.strength(0, 0, 0, 90 * season, 0, 0), UNKNOWN);
        }
    }

    /** "no RULES". */
    private static void noRules() {
        House x = States.small();
        x.notice(0, 0, 24, 0, 0);
        Due.is("RULES", x.count(5), 0);
        Due.is("by no RULE", x.rule(0, 0, 0, 0, 0, 0), -1);
        Due.is("so we yield", x.yields(0, 0, 0, 0, 0, 1), 0);
    }

    /** "the CLOCK's DAY is 0". */
    private static void clockIsZero() {
        House x = States.small();
        Due.is("the CLOCK's DAY", x.count(6), 0);
        x.sheet(0, 270);
        x.report(0, 0, 0, 12, 9);
        Due.is("a REPORT is told in SEASON 0", x.correction(0, 0, 0, 1), 9);
        Due.is("the DAY may stay", x.clock(0), true);
    }

    /** "Nothing is there": no SCHEDULE is at hand. */
    private static void noSchedule() {
        House x = States.furnished();
        House y = States.small();
        y.programme(0, 0, 24);
        for (int what = 0; what < 4; what++) {
            Due.is("slot(12, 0, " + what + ")", y.slot(12, 0, what), -1);
        }
        Due.is("listeners(12)", y.listeners(12), -1);
        Due.is("one of another object is at hand there alone", x.listeners(9), 0);
    }

    /** What one object is told, another one does not know. */
    private static void eachByItself() {
        House x = States.furnished();
        House y = new House();
        for (int what = 0; what < 8; what++) {
            Due.is("count(" + what + ") of another", y.count(what), 0);
        }
        Due.is("place() of another", y.place(), -1);
        y.readText("#");
        y.clock(3599);
        Due.is("RULES", x.count(5), 2);
        Due.is("the CLOCK's DAY", x.count(6), 5);
        Due.is("bytes", x.count(7), 9);
    }

    /** "0 LANDS, 1 SITES, 2 MASTS, 3 PROGRAMMES, 4 FACTS, 5 RULES, 6 the CLOCK's DAY, 7 bytes on the tape". */
    private static void countOfEach() {
        House x = States.furnished();
        int[] due = {3, 2, 2, 2, 4, 2, 5, 9};
        for (int what = 0; what < 8; what++) {
            Due.is("count(" + what + ")", x.count(what), due[what]);
        }
        full();
    }

    private static void full() {
        House x = new House();
        for (int k = 0; k < 8; k++) {
            x.ground(k, 0, 1);
        }
        for (int k = 0; k < 4; k++) {
            x.ground(k, 0, 0);
        }
        for (int k = 0; k < 6; k++) {
            x.mast(0, 1);
        }
        for (int k = 0; k < 10; k++) {
            x.programme(0, 0, 1);
        }
        for (int k = 0; k < 300; k++) {
            x.notice(0, 0, 1, 0, 0);
        }
        x.readText("we yield;".repeat(20));
        x.clock(3599);
        for (int k = 0; k < 100; k++) {
            x.feed(0, 0, 0, 0, 0);
        }
        int[] due = {8, 4, 6, 10, 300, 20, 3599, 2000};
        for (int what = 0; what < 8; what++) {
            Due.is("count(" + what + ") of a full one", x.count(what), due[what]);
        }
    }

    /** "NONE for others". */
    private static void countOfOthers() {
        House x = States.furnished();
        for (int what : new int[] {-1, 8, 9, MIN, MAX}) {
            Due.is("count(" + what + ")", x.count(what), -1);
        }
    }

    /** "An object is used for at most 512 calls": the 512th is answered as all others. */
    private static void lastCall() {
        House x = States.furnished();
        while (x.callsLeft() > 2) {
            x.count(6);
        }
        Due.is("the 511th", x.clock(77), true);
        Due.is("the 512th", x.count(6), 77);
        House y = States.small();
        y.sheet(0, 270);
        y.cell(0, House.noon(0), 6);
        y.programme(0, 12, 13);
        while (y.callsLeft() > 1) {
            y.report(0, 0, 0, 12, 6);
        }
        Due.is("the 512th, a SCHEDULE", y.schedule(0, 300), 100);
    }
}
