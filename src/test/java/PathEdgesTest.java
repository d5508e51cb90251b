/** Part II of the Terms and promises 16 and 17, edge by edge: CORRECTION and STRENGTH. */
public final class PathEdgesTest {
    private static final int MIN = Integer.MIN_VALUE;
    private static final int MAX = Integer.MAX_VALUE;
    private static final int UNKNOWN = -1000000;

    public static void main(String[] args) {
        noSuchCell();
        firstAndLastCell();
        whoIsAhead();
        knownBy();
        withoutReports();
        roundedDown();
        leastAndMost();
        reportsWithoutCell();
        ofTheDayToldOn();
        ofItsOwnPath();
        correctionsPath();
        correctionsKnown();
        strengthsSum();
        strengthsMast();
        strengthsOthers();
        strengthsKnown();
        Due.end();
    }

    private static House flat() {
        House x = States.small();
        x.sheet(0, 270);
        return x;
    }

    /** "no such cell: it is not known": a SHEET that is MISSING, empty, or one cell too short. */
    private static void noSuchCell() {
        for (int band = 0; band < 6; band++) {
            House x = States.small();
            Due.is("MISSING", x.strength(0, band, 0, 0, 12, 0), UNKNOWN);
            x.sheet(0, 0);
            Due.is("empty", x.strength(0, band, 0, 0, 12, 0), UNKNOWN);
            x.sheet(0, House.noon(band));
            Due.is("one too short for BAND " + band, x.strength(0, band, 0, 0, 12, 0), UNKNOWN);
            x.sheet(0, House.noon(band) + 1);
            Due.is("just long enough for BAND " + band, x.strength(0, band, 0, 0, 12, 0), 4);
            if (band > 0) {
                Due.is("and for the BAND ahead", x.strength(0, band - 1, 0, 0, 12, 0), 4);
            }
            if (band < 5) {
                Due.is("not for the BAND behind", x.strength(0, band + 1, 0, 0, 12, 0), UNKNOWN);
            }
        }
    }

    /** "cell ((SUN there ahead * 3 + SUN where it comes) * 5 + FAR) * 6 + BAND": the first, and the last that a WAY leads to. */
    private static void firstAndLastCell() {
        House x = flat();
        x.cell(0, 0, 11);
        Due.is("night, FAR 0, BAND 0", x.strength(0, 0, 0, 0, 0, 0), 15);
        x.sheet(0, 1);
        Due.is("of a SHEET with one cell", x.strength(0, 0, 0, 0, 0, 0), 4);
        Due.is("its BAND 1", x.strength(0, 1, 0, 0, 0, 0), UNKNOWN);
        House y = new House();
        y.ground(0, 0, 0);
        y.ground(6, 6, 1);
        y.mast(0, 1);
        int last = ((2 * 3 + 2) * 5 + 2) * 6 + 5;
        y.sheet(0, last);
        Due.is("noon, FAR 2, BAND 5 of a SHEET too short", y.strength(0, 5, 0, 0, 8, 0), UNKNOWN);
        y.sheet(0, last + 1);
        y.cell(0, last, 12);
        Due.is("noon, FAR 2, BAND 5", y.strength(0, 5, 0, 0, 8, 0), 13);
    }

    /** "SUN there ahead * 3 + SUN where it comes": the SITE's counts three times. */
    private static void whoIsAhead() {
        for (int ahead = 0; ahead < 3; ahead++) {
            for (int there = 0; there < 3; there++) {
                House x = new House();
                // Local hours 0, 6, 12 have SUN 0, 1, 2.
                x.ground(6 * ahead, 3, 0);
                x.ground(6 * there, 3, 1);
                x.mast(0, 1);
                x.sheet(0, 270);
                int far = x.way(0, 0, 1);
                x.cell(0, ((ahead * 3 + there) * 5 + far) * 6 + 2, 33);
                Due.is("SUN " + ahead + " to SUN " + there, x.strength(0, 2, 0, 0, 0, 0), 34);
            }
        }
    }

    /** "As KNOWN by n the first n of them count": none, one less than all, all. */
    private static void knownBy() {
        House x = flat();
        x.report(0, 0, 0, 12, 10);
        x.notice(0, 0, 24, 0, 0);
        x.report(0, 0, 0, 12, 20);
        x.report(0, 0, 0, 12, 60);
        int[] due = {0, 10, 10, 15, 30};
        for (int n = 0; n <= 4; n++) {
            Due.is("CORRECTION as KNOWN by " + n, x.correction(0, 0, 0, n), due[n]);
            Due.is("STRENGTH as KNOWN by " + n, x.strength(0, 0, 0, 0, 0, n), due[n] + 4);
        }
    }

    /** "0 without". */
    private static void withoutReports() {
        House x = flat();
        Due.is("without FACTS", x.correction(0, 0, 0, 0), 0);
        x.notice(0, 0, 24, 0, 0);
        Due.is("with a NOTICE alone", x.correction(0, 0, 0, 1), 0);
        x.report(0, 0, 1, 12, 50);
        Due.is("with another path's alone", x.correction(0, 0, 0, 2), 0);
    }

    /** "divided by how many they are, rounded down": below 0, too. */
    private static void roundedDown() {
        int[][] due = {{1, 1, 1}, {-1, 1, -1}, {1, 2, 0}, {-1, 2, -1}, {-2, 2, -1}, {-3, 2, -2}, {2, 3, 0}, {-1, 3, -1}, {-2, 3, -1},
            {-3, 3, -1}, {-4, 3, -2}, {5, 3, 1}, {6, 3, 2}, {-98, 99, -1}, {98, 99, 0}, {99, 99, 1}, {-99, 99, -1}};
        for (int[] d : due) {
            House x = flat();
            x.report(0, 0, 0, 12, d[0]);
            for (int k = 1; k < d[1]; k++) {
                x.report(0, 0, 0, 12, 0);
            }
            Due.is(d[0] + " by " + d[1], x.correction(0, 0, 0, d[1]), d[2]);
        }
    }

    /** "heard less that cell's number": from -198 to 198, over 300 REPORTS, too. */
    private static void leastAndMost() {
        for (int sign = -1; sign <= 1; sign += 2) {
            House x = flat();
            x.cell(0, House.noon(0), -99 * sign);
            for (int f = 0; f < 300; f++) {
                x.report(0, 0, 0, 12, 99 * sign);
            }
            Due.is("by one", x.correction(0, 0, 0, 1), 198 * sign);
            Due.is("by 300", x.correction(0, 0, 0, 300), 198 * sign);
            Due.is("STRENGTH at that cell", x.strength(0, 0, 0, 0, 12, 300), 99 * sign + 4);
            x.cell(0, 0, 99 * sign);
            Due.is("STRENGTH at another", x.strength(0, 0, 0, 0, 0, 300), 297 * sign + 4);
        }
    }

    /** "whose cell is known": others are not among those by which it is divided. */
    private static void reportsWithoutCell() {
        House x = States.small();
        x.sheet(0, House.noon(0));
        x.report(0, 0, 0, 12, 30);
        Due.is("none has a cell", x.correction(0, 0, 0, 1), 0);
        x.report(0, 0, 0, 0, 20);
        Due.is("one of two has a cell", x.correction(0, 0, 0, 2), 20);
        x.sheet(0, House.noon(0) + 1);
        Due.is("both have one", x.correction(0, 0, 0, 2), 25);
        x.sheet(0, 0);
        Due.is("none has one", x.correction(0, 0, 0, 2), 0);
        x.sheet(0, -1);
        Due.is("MISSING", x.correction(0, 0, 0, 2), 0);
    }

    /** "cell (of the DAY on which they were told)": SEASON and SUN of that DAY, whichever DAY is asked for. */
    private static void ofTheDayToldOn() {
        House x = new House();
        x.ground(0, 0, 1);
        x.ground(0, 0, 0);
        x.mast(0, 1);
        x.sheet(0, 270);
        x.sheet(1, 270);
        // At local 5 SUN is 1 in SEASON 0, 2 in SEASON 1.
        x.cell(0, (1 * 3 + 1) * 30, 7);
        x.cell(1, (2 * 3 + 2) * 30, 1);
        x.clock(89);
        x.report(0, 0, 0, 5, 20);
        Due.is("told on DAY 89", x.correction(0, 0, 0, 1), 13);
        x.clock(90);
        Due.is("still", x.correction(0, 0, 0, 1), 13);
        x.report(0, 0, 0, 5, 20);
        Due.is("and one on DAY 90", x.correction(0, 0, 0, 2), 16);
        Due.is("it counts on DAY 0", x.strength(0, 0, 0, 0, 5, 2), 24);
        Due.is("it counts on DAY 90", x.strength(0, 0, 0, 90, 5, 2), 18);
    }

    /** "CORRECTION of a path (SITE, LAND, BAND)": of the first and of the last alone. */
    private static void ofItsOwnPath() {
        int[][] paths = {{0, 0, 0}, {3, 7, 5}, {0, 7, 5}, {3, 0, 5}, {3, 7, 0}, {1, 0, 0}, {0, 1, 0}, {0, 0, 1}};
        for (int[] p : paths) {
            House x = new House();
            for (int k = 0; k < 8; k++) {
                x.ground(0, 3, 1);
            }
            for (int k = 0; k < 4; k++) {
                x.ground(0, 3, 0);
            }
            x.sheet(0, 270);
            x.report(p[0], p[1], p[2], 12, 9);
            for (int k = 0; k < 4 * 8 * 6; k++) {
                int site = k / 48;
                int land = k / 6 % 8;
                int band = k % 6;
                int due = site == p[0] && land == p[1] && band == p[2] ? 9 : 0;
                Due.is("CORRECTION of " + site + ", " + land + ", " + band, x.correction(site, land, band, 1), due);
            }
        }
    }

    /** "-1000000: no such ones": SITE, LAND, BAND. */
    private static void correctionsPath() {
        House x = States.furnished();
        for (int site : new int[] {-1, 2, 4, MIN, MAX}) {
            Due.is("correction(" + site + ", 0, 1, 4)", x.correction(site, 0, 1, 4), UNKNOWN);
        }
        for (int land : new int[] {-1, 3, 8, MIN, MAX}) {
            Due.is("correction(0, " + land + ", 1, 4)", x.correction(0, land, 1, 4), UNKNOWN);
        }
        for (int band : new int[] {-1, 6, MIN, MAX}) {
            Due.is("correction(0, 0, " + band + ", 4)", x.correction(0, 0, band, 4), UNKNOWN);
        }
        Due.is("the first path", x.correction(0, 0, 0, 4), 0);
        Due.is("the last path", x.correction(1, 2, 5, 4), 0);
    }

    /** "-1000000: no such ones": n. */
    private static void correctionsKnown() {
        House x = States.furnished();
        for (int n : new int[] {-1, 5, 6, 300, MIN, MAX}) {
            Due.is("correction(0, 0, 1, " + n + ")", x.correction(0, 0, 1, n), UNKNOWN);
        }
        Due.is("n 0", x.correction(0, 0, 1, 0), 0);
        Due.is("n 4, all", x.correction(0, 0, 1, 4), 11);
        House y = States.small();
        Due.is("0 of none", y.correction(0, 0, 0, 0), 0);
        Due.is("1 of none", y.correction(0, 0, 0, 1), UNKNOWN);
    }

    /** "the cell's number, CORRECTION and POWER together": the least and the most. */
    private static void strengthsSum() {
        House x = States.small();
        x.mast(0, 1);
        x.mast(0, 9);
        x.sheet(0, 270);
        x.cell(0, House.noon(0), -99);
        Due.is("the least without a REPORT", x.strength(1, 0, 0, 0, 12, 0), -98);
        x.cell(0, House.noon(0), 99);
        Due.is("the most without a REPORT", x.strength(2, 0, 0, 0, 12, 0), 108);
        x.report(0, 0, 0, 12, -99);
        Due.is("put right", x.strength(2, 0, 0, 0, 12, 1), -90);
        x.cell(0, 0, -99);
        Due.is("the least", x.strength(1, 0, 0, 0, 0, 1), -296);
        x.cell(0, House.noon(1), -99);
        x.report(0, 0, 1, 12, 99);
        x.cell(0, 1, 99);
        Due.is("the most", x.strength(2, 1, 0, 0, 0, 2), 306);
    }

    /** "-1000000: no such ones": MAST. */
    private static void strengthsMast() {
        House x = States.furnished();
        for (int m : new int[] {-1, 2, 6, MIN, MAX}) {
            Due.is("strength(" + m + ", 0, 0, 0, 12, 0)", x.strength(m, 0, 0, 0, 12, 0), UNKNOWN);
        }
        Due.is("the first", x.strength(0, 0, 0, 0, 12, 0), 5);
        Due.is("the last", x.strength(1, 0, 1, 0, 9, 0), 29);
    }

    /** "-1000000: no such ones": BAND, LAND, DAY, HOUR. */
    private static void strengthsOthers() {
        House x = States.furnished();
        for (int band : new int[] {-1, 6, MIN, MAX}) {
            Due.is("strength, BAND " + band, x.strength(0, band, 0, 0, 12, 0), UNKNOWN);
        }
        for (int land : new int[] {-1, 3, 8, MIN, MAX}) {
            Due.is("strength, LAND " + land, x.strength(0, 0, land, 0, 12, 0), UNKNOWN);
        }
        for (int day : new int[] {-1, 3600, MIN, MAX}) {
            Due.is("strength, DAY " + day, x.strength(0, 0, 0, day, 12, 0), UNKNOWN);
        }
        for (int hour : new int[] {-1, 24, MIN, MAX}) {
            Due.is("strength, HOUR " + hour, x.strength(0, 0, 0, 0, hour, 0), UNKNOWN);
        }
        x.sheet(3, 270);
        Due.is("the first of all", x.strength(0, 0, 0, 0, 0, 0), 4);
        Due.is("the last of all", x.strength(0, 5, 2, 3599, 23, 0), 4);
    }

    /** "-1000000: no such ones": n. */
    private static void strengthsKnown() {
        House x = States.furnished();
        for (int n : new int[] {-1, 5, 300, MIN, MAX}) {
            Due.is("strength, n " + n, x.strength(0, 1, 0, 0, 12, n), UNKNOWN);
        }
        Due.is("n 0", x.strength(0, 1, 0, 0, 12, 0), 8);
        Due.is("n 4, all", x.strength(0, 1, 0, 0, 12, 4), 19);
    }
}
