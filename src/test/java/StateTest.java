/** Promises 1, 6, 7, 8, 9, 10, 11, 12, 13, 23: what is there, and what is refused. */
public final class StateTest {
    public static void main(String[] args) {
        newObject();
        grounds();
        masts();
        programmes();
        sheets();
        clock();
        reports();
        notices();
        factsAtMost();
        Due.end();
    }

    private static void counts(String when, House x, int... due) {
        for (int what = 0; what < due.length; what++) {
            Due.is(when + " count(" + what + ")", x.count(what), due[what]);
        }
    }

    private static void newObject() {
        House x = new House();
        Due.is("NONE", WaveHouse.NONE, -1);
        counts("new", x, 0, 0, 0, 0, 0, 0, 0, 0);
        Due.is("count(8)", x.count(8), -1);
        Due.is("count(-1)", x.count(-1), -1);
        Due.is("count(min)", x.count(Integer.MIN_VALUE), -1);
        Due.is("place()", x.place(), -1);
        for (int s = 0; s < 4; s++) {
            Due.is("new cell", x.cell(s, 0, 0), false);
        }
        Due.is("new listeners", x.listeners(0), -1);
        Due.is("new mast", x.mast(0, 1), -1);
        Due.is("new programme", x.programme(0, 0, 1), -1);
        Due.is("new report", x.report(0, 0, 0, 0, 0), -1);
        Due.is("new notice", x.notice(0, 0, 1, 0, 0), -1);
        counts("after refusals", x, 0, 0, 0, 0, 0, 0, 0, 0);
    }

    private static void grounds() {
        House x = new House();
        int[][] wrong = {{-1, 0, 1}, {24, 0, 1}, {0, -1, 1}, {0, 7, 1}, {0, 0, -1}, {0, 0, 10001},
            {24, 0, 0}, {0, 7, 0}, {Integer.MIN_VALUE, 0, 0}, {0, Integer.MAX_VALUE, 0}, {0, 0, Integer.MIN_VALUE}};
        for (int[] w : wrong) {
            Due.is("wrong ground", x.ground(w[0], w[1], w[2]), -1);
        }
        counts("none yet", x, 0, 0);
        for (int k = 0; k < 8; k++) {
            Due.is("land " + k, x.ground(23, 6, k % 2 == 0 ? 1 : 10000), k);
            if (k < 4) {
                Due.is("site " + k, x.ground(23, 6, 0), k);
            }
        }
        Due.is("9th land", x.ground(0, 0, 5), -1);
        Due.is("5th site", x.ground(0, 0, 0), -1);
        counts("full", x, 8, 4, 0, 0);
    }

    private static void masts() {
        House x = new House();
        x.ground(0, 0, 0);
        Due.is("no site 1", x.mast(1, 1), -1);
        Due.is("no site -1", x.mast(-1, 1), -1);
        Due.is("power 0", x.mast(0, 0), -1);
        Due.is("power 10", x.mast(0, 10), -1);
        for (int m = 0; m < 6; m++) {
            Due.is("mast", x.mast(0, m == 0 ? 1 : 9), m);
        }
        Due.is("7th mast", x.mast(0, 1), -1);
        counts("masts", x, 0, 1, 6, 0);
    }

    private static void programmes() {
        House x = new House();
        x.ground(0, 0, 7);
        int[][] wrong = {{1, 0, 1}, {-1, 0, 1}, {0, -1, 1}, {0, 1, 1}, {0, 2, 1}, {0, 0, 25}, {0, 24, 25}, {0, 24, 24},
            {0, 0, 0}, {0, 0, Integer.MIN_VALUE}, {0, Integer.MAX_VALUE, Integer.MIN_VALUE}};
        for (int[] w : wrong) {
            Due.is("wrong programme", x.programme(w[0], w[1], w[2]), -1);
        }
        for (int p = 0; p < 10; p++) {
            Due.is("programme", p % 2 == 0 ? x.programme(0, 0, 24) : x.programme(0, 23, 24), p);
        }
        Due.is("11th programme", x.programme(0, 0, 1), -1);
        counts("programmes", x, 1, 0, 0, 10);
    }

    private static void sheets() {
        House x = new House();
        for (int season : new int[] {-1, 4, Integer.MAX_VALUE}) {
            Due.is("no such season", x.sheet(season, 5), false);
            Due.is("no such season", x.cell(season, 0, 0), false);
        }
        Due.is("n 271", x.sheet(0, 271), false);
        Due.is("n -2", x.sheet(0, -2), false);
        Due.is("still missing", x.cell(0, 0, 0), false);
        Due.is("n 0", x.sheet(0, 0), true);
        Due.is("cell of none", x.cell(0, 0, 0), false);
        Due.is("n 3", x.sheet(0, 3), true);
        Due.is("cell 2", x.cell(0, 2, 99), true);
        Due.is("cell 2", x.cell(0, 2, -99), true);
        Due.is("cell 3", x.cell(0, 3, 1), false);
        Due.is("cell -1", x.cell(0, -1, 1), false);
        Due.is("v 100", x.cell(0, 2, 100), false);
        Due.is("v -100", x.cell(0, 2, -100), false);
        Due.is("other season", x.cell(1, 2, 1), false);
        Due.is("wrong n leaves it", x.sheet(0, 300), false);
        Due.is("it is there", x.cell(0, 0, 1), true);
        Due.is("missing again", x.sheet(0, -1), true);
        Due.is("missing", x.cell(0, 0, 1), false);
        Due.is("missing twice", x.sheet(0, -1), true);
        Due.is("season 3", x.sheet(3, 270), true);
        Due.is("last cell", x.cell(3, 269, 1), true);
        sheetsHoldZeros();
    }

    private static void sheetsHoldZeros() {
        House x = new House();
        x.ground(0, 3, 10);
        x.ground(0, 3, 0);
        x.mast(0, 4);
        x.sheet(0, 270);
        x.cell(0, House.noon(5), -7);
        Due.is("a cell", x.strength(0, 5, 0, 0, 12, 0), -3);
        x.cell(0, House.noon(5), 100);
        Due.is("a wrong v changes nothing", x.strength(0, 5, 0, 0, 12, 0), -3);
        x.sheet(0, 271);
        Due.is("a wrong n changes nothing", x.strength(0, 5, 0, 0, 12, 0), -3);
        x.sheet(0, House.noon(5));
        Due.is("one cell too short", x.strength(0, 5, 0, 0, 12, 0), -1000000);
        x.sheet(0, House.noon(5) + 1);
        Due.is("zeros", x.strength(0, 5, 0, 0, 12, 0), 4);
        x.sheet(0, -1);
        Due.is("missing", x.strength(0, 0, 0, 0, 12, 0), -1000000);
    }

    private static void clock() {
        House x = new House();
        Due.is("clock(-1)", x.clock(-1), false);
        Due.is("clock(0)", x.clock(0), true);
        Due.is("clock(7)", x.clock(7), true);
        Due.is("clock(7) again", x.clock(7), true);
        Due.is("clock(6)", x.clock(6), false);
        Due.is("count(6)", x.count(6), 7);
        Due.is("clock(3600)", x.clock(3600), false);
        Due.is("clock(3599)", x.clock(3599), true);
        Due.is("count(6)", x.count(6), 3599);
    }

    private static void reports() {
        House x = new House();
        x.ground(0, 0, 0);
        x.ground(0, 0, 1);
        int[][] wrong = {{-1, 0, 0, 0, 0}, {1, 0, 0, 0, 0}, {0, -1, 0, 0, 0}, {0, 1, 0, 0, 0}, {0, 0, -1, 0, 0},
            {0, 0, 6, 0, 0}, {0, 0, 0, -1, 0}, {0, 0, 0, 24, 0}, {0, 0, 0, 0, -100}, {0, 0, 0, 0, 100}};
        for (int[] w : wrong) {
            Due.is("wrong report", x.report(w[0], w[1], w[2], w[3], w[4]), -1);
        }
        Due.is("report", x.report(0, 0, 5, 23, 99), 0);
        Due.is("report", x.report(0, 0, 0, 0, -99), 1);
        Due.is("facts", x.count(4), 2);
    }

    private static void notices() {
        House x = new House();
        x.ground(0, 0, 1);
        int[][] wrong = {{-1, 0, 1, 0, 0}, {6, 0, 1, 0, 0}, {0, -1, 1, 0, 0}, {0, 1, 1, 0, 0}, {0, 0, 25, 0, 0},
            {0, 0, 1, -1, 0}, {0, 0, 1, 1, 0}, {0, 0, 1, 0, -1}, {0, 0, 1, 0, 3600}, {0, 0, Integer.MIN_VALUE, 0, 0}};
        for (int[] w : wrong) {
            Due.is("wrong notice", x.notice(w[0], w[1], w[2], w[3], w[4]), -1);
        }
        Due.is("notice", x.notice(5, 0, 24, 0, 3599), 0);
        Due.is("notice", x.notice(0, 23, 24, 0, 0), 1);
        Due.is("facts", x.count(4), 2);
    }

    private static void factsAtMost() {
        House x = new House();
        x.ground(0, 0, 0);
        x.ground(0, 0, 1);
        for (int f = 0; f < 300; f++) {
            Due.is("fact", f % 2 == 0 ? x.report(0, 0, 0, 0, 0) : x.notice(0, 0, 1, 0, 0), f);
        }
        Due.is("301st fact", x.report(0, 0, 0, 0, 0), -1);
        Due.is("301st fact", x.notice(0, 0, 1, 0, 0), -1);
        Due.is("facts", x.count(4), 300);
    }
}
