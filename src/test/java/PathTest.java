/** Promises 12, 16 and 17: REPORTS, CORRECTION and STRENGTH. */
public final class PathTest {
    private static final int UNKNOWN = -1000000;

    public static void main(String[] args) {
        whichCell();
        season();
        means();
        toldOnItsDay();
        cellsAsTheyAreNow();
        knownBy();
        wrongOnes();
        Due.end();
    }

    private static House house() {
        House x = new House();
        x.ground(0, 3, 10);
        x.ground(0, 3, 0);
        x.mast(0, 4);
        return x;
    }

    /** Every cell once: its index tells the SUN ahead, the SUN where it comes, FAR and BAND. */
    private static void whichCell() {
        House x = new House();
        x.ground(8, 3, 10);
        x.ground(20, 1, 10);
        x.ground(3, 5, 10);
        x.ground(0, 3, 0);
        x.ground(15, 6, 0);
        x.mast(0, 1);
        x.mast(1, 9);
        for (int hour = 0; hour < 24; hour += 3) {
            for (int m = 0; m < 2; m++) {
                for (int land = 0; land < 3; land++) {
                    int i = (x.sun(true, m, 0, hour) * 3 + x.sun(false, land, 0, hour)) * 5 + x.way(m, land, 1);
                    int band = hour % 6;
                    x.sheet(0, i * 6 + band);
                    Due.is("no such cell", x.strength(m, band, land, 0, hour, 0), UNKNOWN);
                    x.sheet(0, i * 6 + band + 1);
                    x.cell(0, i * 6 + band, hour * 2 - 30);
                    Due.is("cell", x.strength(m, band, land, 0, hour, 0), hour * 2 - 30 + (m == 0 ? 1 : 9));
                }
            }
        }
    }

    private static void season() {
        House x = house();
        for (int s = 0; s < 4; s++) {
            x.sheet(s, 270);
            x.cell(s, House.noon(2), 10 * s);
        }
        int[][] due = {{0, 4}, {89, 4}, {90, 14}, {179, 14}, {180, 24}, {270, 34}, {359, 34}, {360, 4}, {3599, 34}};
        for (int[] d : due) {
            Due.is("strength on day " + d[0], x.strength(0, 2, 0, d[0], 12, 0), d[1]);
        }
    }

    private static void means() {
        House x = house();
        x.sheet(0, 270);
        x.report(0, 0, 1, 12, 3);
        Due.is("3", x.correction(0, 0, 1, 1), 3);
        x.report(0, 0, 1, 12, 2);
        Due.is("5 / 2", x.correction(0, 0, 1, 2), 2);
        x.report(0, 0, 1, 12, -10);
        Due.is("-5 / 3", x.correction(0, 0, 1, 3), -2);
        x.report(0, 0, 1, 12, -3);
        Due.is("-8 / 4", x.correction(0, 0, 1, 4), -2);
        x.report(0, 0, 1, 12, -1);
        Due.is("-9 / 5", x.correction(0, 0, 1, 5), -2);
        x.report(0, 0, 1, 12, 8);
        Due.is("-1 / 6", x.correction(0, 0, 1, 6), -1);
        Due.is("its strength", x.strength(0, 1, 0, 0, 12, 6), 3);
        Due.is("at any hour", x.strength(0, 1, 0, 0, 0, 6), 3);
        Due.is("other band", x.correction(0, 0, 0, 6), 0);
        x.notice(1, 0, 24, 0, 0);
        Due.is("notices do not count", x.correction(0, 0, 1, 7), -1);
        x.ground(0, 3, 10);
        x.ground(0, 3, 0);
        Due.is("other land", x.correction(0, 1, 1, 7), 0);
        Due.is("other site", x.correction(1, 0, 1, 7), 0);
        x.sheet(0, 270);
        x.cell(0, House.noon(1), 99);
        x.report(1, 1, 1, 12, -99);
        Due.is("the least", x.correction(1, 1, 1, 8), -198);
    }

    private static void toldOnItsDay() {
        House x = house();
        x.sheet(1, 270);
        x.cell(1, House.noon(0), 20);
        x.report(0, 0, 0, 12, 50);
        x.clock(90);
        x.report(0, 0, 0, 12, 26);
        Due.is("that of season 0 has no cell", x.correction(0, 0, 0, 2), 6);
        Due.is("it alone", x.correction(0, 0, 0, 1), 0);
        x.sheet(0, 270);
        Due.is("now it has one", x.correction(0, 0, 0, 2), 28);
        x.clock(200);
        Due.is("the clock goes on", x.correction(0, 0, 0, 2), 28);
    }

    private static void cellsAsTheyAreNow() {
        House x = house();
        x.sheet(0, 270);
        x.report(0, 0, 0, 12, 10);
        Due.is("ahead", x.correction(0, 0, 0, 1), 10);
        x.cell(0, House.noon(0), 4);
        Due.is("behind", x.correction(0, 0, 0, 1), 6);
        Due.is("strength", x.strength(0, 0, 0, 0, 12, 1), 14);
        x.sheet(0, -1);
        Due.is("missing", x.correction(0, 0, 0, 1), 0);
        Due.is("missing", x.strength(0, 0, 0, 0, 12, 1), UNKNOWN);
    }

    private static void knownBy() {
        House x = house();
        x.sheet(0, 270);
        for (int f = 0; f < 5; f++) {
            x.report(0, 0, 3, 12, f * 10);
        }
        for (int n = 0; n <= 5; n++) {
            int due = n == 0 ? 0 : (n - 1) * 5;
            Due.is("correction by " + n, x.correction(0, 0, 3, n), due);
            Due.is("strength by " + n, x.strength(0, 3, 0, 0, 12, n), due + 4);
        }
        Due.is("by 6", x.correction(0, 0, 3, 6), UNKNOWN);
        Due.is("by -1", x.correction(0, 0, 3, -1), UNKNOWN);
    }

    private static void wrongOnes() {
        House x = house();
        x.sheet(0, 270);
        int[][] paths = {{-1, 0, 0}, {1, 0, 0}, {0, -1, 0}, {0, 1, 0}, {0, 0, -1}, {0, 0, 6}};
        for (int[] p : paths) {
            Due.is("no such path", x.correction(p[0], p[1], p[2], 0), UNKNOWN);
        }
        int[][] wrong = {{-1, 0, 0, 0, 0, 0}, {1, 0, 0, 0, 0, 0}, {0, -1, 0, 0, 0, 0}, {0, 6, 0, 0, 0, 0},
            {0, 0, -1, 0, 0, 0}, {0, 0, 1, 0, 0, 0}, {0, 0, 0, -1, 0, 0}, {0, 0, 0, 3600, 0, 0}, {0, 0, 0, 0, -1, 0},
            {0, 0, 0, 0, 24, 0}, {0, 0, 0, 0, 0, -1}, {0, 0, 0, 0, 0, 1}};
        for (int[] w : wrong) {
            Due.is("wrong strength", x.strength(w[0], w[1], w[2], w[3], w[4], w[5]), UNKNOWN);
        }
        Due.is("a right one", x.strength(0, 0, 0, 0, 0, 0), 4);
    }
}
