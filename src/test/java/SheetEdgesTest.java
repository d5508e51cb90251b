/** Promises 9, 10 and 11, edge by edge: SHEETS, their cells, and the CLOCK. */
public final class SheetEdgesTest {
    private static final int MIN = Integer.MIN_VALUE;
    private static final int MAX = Integer.MAX_VALUE;
    private static final int UNKNOWN = -1000000;

    public static void main(String[] args) {
        seasons();
        sizes();
        rowOfZeros();
        empty();
        missing();
        otherSheetsStay();
        cellsSeason();
        cellsIndex();
        cellsNumber();
        clockBelow();
        clockAbove();
        clockRefused();
        Due.end();
    }

    private static int noonStrength(House x, int day) {
        return x.strength(0, 0, 0, day, 12, 0);
    }

    /** "SHEETS, one for each SEASON" (0 .. 3); "false for others". */
    private static void seasons() {
        for (int season : new int[] {-1, 4, 5, MIN, MAX}) {
            for (int n : new int[] {-1, 0, 270}) {
                Refused.no("sheet(" + season + ", " + n + ")", x -> x.sheet(season, n));
            }
        }
        for (int season = 0; season < 4; season++) {
            House x = States.small();
            Due.is("MISSING at first", noonStrength(x, 90 * season), UNKNOWN);
            Due.is("sheet(" + season + ", 270)", x.sheet(season, 270), true);
            Due.is("it is there", noonStrength(x, 90 * season), 4);
            for (int other = 0; other < 4; other++) {
                Due.is("cell of SEASON " + other, x.cell(other, 0, 1), other == season);
            }
        }
    }

    /** "A SEASON's SHEET becomes a row of n (0 .. 270) 0s; n NONE: MISSING: true; false for others". */
    private static void sizes() {
        for (int n : new int[] {-2, 271, -270, MIN, MAX}) {
            for (int season = 0; season < 4; season++) {
                int s = season;
                Refused.no("sheet(" + s + ", " + n + ")", x -> x.sheet(s, n));
            }
        }
        for (int n : new int[] {-1, 0, 1, 269, 270}) {
            House x = new House();
            Due.is("sheet(2, " + n + ")", x.sheet(2, n), true);
            Due.is("its last cell, n " + n, x.cell(2, n - 1, 1), n > 0);
            Due.is("none behind it, n " + n, x.cell(2, n, 1), false);
        }
    }

    /** "becomes a row of n 0s": also where it had others, and behind a smaller one or a MISSING one. */
    private static void rowOfZeros() {
        int noon = House.noon(0);
        for (int between : new int[] {-2, -1, 0, 1, noon, noon + 1, 270}) {
            House x = States.small();
            x.sheet(0, 270);
            x.cell(0, noon, 50);
            x.cell(0, 0, 50);
            Due.is("the cell", noonStrength(x, 0), 54);
            if (between != -2) {
                x.sheet(0, between);
            }
            x.sheet(0, 270);
            Due.is("0 behind sheet(0, " + between + ")", noonStrength(x, 0), 4);
            Due.is("cell 0, too, behind sheet(0, " + between + ")", x.strength(0, 0, 0, 0, 0, 0), 4);
        }
    }

    /** "of n cells (0 .. 270)": 0 cells are no cell. */
    private static void empty() {
        House x = States.small();
        x.sheet(0, 270);
        Due.is("sheet(0, 0)", x.sheet(0, 0), true);
        Due.is("it has no cell 0", x.cell(0, 0, 0), false);
        Due.is("nothing is known", noonStrength(x, 0), UNKNOWN);
        Due.is("nothing is known at night", x.strength(0, 0, 0, 0, 0, 0), UNKNOWN);
    }

    /** "n NONE: MISSING: true": also where it is MISSING. */
    private static void missing() {
        House x = States.small();
        Due.is("sheet(0, NONE) of a MISSING one", x.sheet(0, -1), true);
        Due.is("it has no cell 0", x.cell(0, 0, 0), false);
        x.sheet(0, 270);
        Due.is("sheet(0, NONE)", x.sheet(0, -1), true);
        Due.is("it has no cell 0", x.cell(0, 0, 0), false);
        Due.is("nothing is known", noonStrength(x, 0), UNKNOWN);
    }

    /** "A SEASON's SHEET becomes ..": no other's. */
    private static void otherSheetsStay() {
        for (int season = 0; season < 4; season++) {
            for (int n : new int[] {-1, 0, 270}) {
                House x = States.small();
                for (int other = 0; other < 4; other++) {
                    x.sheet(other, 270);
                    x.cell(other, House.noon(0), 10 + other);
                }
                x.sheet(season, n);
                for (int other = 0; other < 4; other++) {
                    int due = other != season ? 14 + other : n == 270 ? 4 : UNKNOWN;
                    Due.is("SEASON " + other + " behind sheet(" + season + ", " + n + ")", noonStrength(x, 90 * other), due);
                }
            }
        }
    }

    /** "false: there is none such": no such SEASON, a MISSING SHEET. */
    private static void cellsSeason() {
        for (int season : new int[] {-1, 2, 3, 4, MIN, MAX}) {
            Refused.no("cell(" + season + ", 0, 1)", x -> x.cell(season, 0, 1));
        }
        House x = new House();
        x.sheet(0, 1);
        x.sheet(3, 1);
        Due.is("cell(0, 0, 1)", x.cell(0, 0, 1), true);
        Due.is("cell(3, 0, 1)", x.cell(3, 0, 1), true);
    }

    /** "Cell i of a SHEET becomes v: true; false: there is none such". */
    private static void cellsIndex() {
        for (int i : new int[] {-1, 270, 271, 1080, MIN, MAX}) {
            Refused.no("cell(0, " + i + ", 1)", x -> x.cell(0, i, 1));
        }
        for (int i : new int[] {-1, 3, 4, 269}) {
            Refused.no("cell(1, " + i + ", 1) of 3", x -> x.cell(1, i, 1));
        }
        House x = States.small();
        x.sheet(0, 270);
        Due.is("the first", x.cell(0, 0, 30), true);
        Due.is("the last", x.cell(0, 269, 30), true);
        Due.is("the first is 30", x.strength(0, 0, 0, 0, 0, 0), 34);
        Due.is("the next is not", x.strength(0, 1, 0, 0, 0, 0), 4);
        Due.is("another is not", noonStrength(x, 0), 4);
        x.cell(0, 0, 31);
        Due.is("in place of the one ahead", x.strength(0, 0, 0, 0, 0, 0), 35);
    }

    /** "becomes v (-99 .. 99): true; false: another v". */
    private static void cellsNumber() {
        for (int v : new int[] {-101, -100, 100, 101, 65535, 65536, -65536, MIN, MAX}) {
            Refused.no("cell(0, 241, " + v + ")", x -> x.cell(0, 241, v));
        }
        House x = States.small();
        x.sheet(0, 270);
        for (int v : new int[] {-99, -98, -1, 0, 1, 98, 99}) {
            Due.is("cell(0, 240, " + v + ")", x.cell(0, House.noon(0), v), true);
            Due.is("it is " + v, noonStrength(x, 0), v + 4);
        }
    }

    /** "The CLOCK's DAY becomes d: true; false: below the CLOCK's". */
    private static void clockBelow() {
        House x = new House();
        Due.is("below a new one's", x.clock(-1), false);
        Due.is("a new one's own", x.clock(0), true);
        Due.is("1", x.clock(1), true);
        Due.is("one below", x.clock(0), false);
        Due.is("it is 1", x.count(6), 1);
        Due.is("the same", x.clock(1), true);
        Due.is("the last", x.clock(3599), true);
        Due.is("one below the last", x.clock(3598), false);
        Due.is("the last again", x.clock(3599), true);
        Due.is("it is the last", x.count(6), 3599);
    }

    /** "DAYS go from 0 to 3599"; "false: above 3599". */
    private static void clockAbove() {
        House x = new House();
        Due.is("3600", x.clock(3600), false);
        Due.is("nothing has happened", x.count(6), 0);
        Due.is("3599", x.clock(3599), true);
        Due.is("it is 3599", x.count(6), 3599);
        Due.is("3600", x.clock(3600), false);
        Due.is("it is 3599 still", x.count(6), 3599);
    }

    private static void clockRefused() {
        for (int d : new int[] {-1, 0, 4, 3600, 3601, MIN, MAX}) {
            Refused.no("clock(" + d + ")", x -> x.clock(d));
        }
        House x = States.small();
        x.sheet(0, 270);
        x.clock(89);
        x.clock(3600);
        x.report(0, 0, 0, 12, 7);
        Due.is("told on DAY 89 still", x.correction(0, 0, 0, 1), 7);
        x.clock(90);
        x.clock(89);
        x.report(0, 0, 0, 12, 50);
        Due.is("told on DAY 90, of which nothing is known", x.correction(0, 0, 0, 2), 7);
    }
}
