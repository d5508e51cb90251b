/** Promises 6, 7 and 8, edge by edge: LANDS, SITES, MASTS and PROGRAMMES. */
public final class GroundEdgesTest {
    private static final int MIN = Integer.MIN_VALUE;
    private static final int MAX = Integer.MAX_VALUE;

    public static void main(String[] args) {
        zones();
        belts();
        listeners();
        landsAtMost();
        sitesAtMost();
        numberedByThemselves();
        mastsSite();
        power();
        mastsAtMost();
        programmesLand();
        programmesHours();
        programmesAtMost();
        Due.end();
    }

    /** "PLACES lie in ZONES 0 .. 23 (a ring)"; "NONE, and nothing happens: no such place". */
    private static void zones() {
        for (int zone : new int[] {-1, 24, 25, -24, 47, MIN, MAX}) {
            Refused.none("ground(" + zone + ", 3, 1)", x -> x.ground(zone, 3, 1));
            Refused.none("ground(" + zone + ", 3, 0)", x -> x.ground(zone, 3, 0));
        }
        House x = new House();
        Due.is("ground(0, 3, 1)", x.ground(0, 3, 1), 0);
        Due.is("ground(23, 3, 1)", x.ground(23, 3, 1), 1);
        Due.is("ground(0, 3, 0)", x.ground(0, 3, 0), 0);
        Due.is("ground(23, 3, 0)", x.ground(23, 3, 0), 1);
        Due.is("from ZONE 0 to 23", x.way(0, 1, 0), 1);
        Due.is("from ZONE 23 to 0", x.way(1, 0, 0), 1);
        Due.is("from ZONE 23 to 23", x.way(1, 1, 0), 0);
    }

    /** "BELTS 0 (north) .. 6"; "NONE, and nothing happens: no such place". */
    private static void belts() {
        for (int belt : new int[] {-1, 7, 8, MIN, MAX}) {
            Refused.none("ground(0, " + belt + ", 1)", x -> x.ground(0, belt, 1));
            Refused.none("ground(0, " + belt + ", 0)", x -> x.ground(0, belt, 0));
        }
        House x = new House();
        Due.is("ground(0, 0, 1)", x.ground(0, 0, 1), 0);
        Due.is("ground(0, 6, 1)", x.ground(0, 6, 1), 1);
        Due.is("ground(0, 0, 0)", x.ground(0, 0, 0), 0);
        Due.is("ground(0, 6, 0)", x.ground(0, 6, 0), 1);
        Due.is("from BELT 0 to 6", x.way(0, 1, 0), 6);
        Due.is("from BELT 6 to 0", x.way(1, 0, 0), 6);
        Due.is("0 is north", x.way(1, 0, 2), 0);
        Due.is("6 is south", x.way(0, 1, 2), 4);
    }

    /** "LISTENERS (1 .. 10000)"; "a SITE (listeners 0)"; "NONE, and nothing happens: listeners not 0 .. 10000". */
    private static void listeners() {
        for (int listeners : new int[] {-1, 10001, MIN, MAX}) {
            Refused.none("ground(0, 0, " + listeners + ")", x -> x.ground(0, 0, listeners));
        }
        House x = new House();
        Due.is("ground(0, 3, 0)", x.ground(0, 3, 0), 0);
        Due.is("a SITE, no LAND", x.count(0), 0);
        Due.is("a SITE", x.count(1), 1);
        Due.is("ground(0, 3, 1)", x.ground(0, 3, 1), 0);
        Due.is("a LAND", x.count(0), 1);
        Due.is("ground(0, 3, 10000)", x.ground(0, 3, 10000), 1);
        Due.is("a LAND", x.count(0), 2);
        Due.is("no SITE more", x.count(1), 1);
        x.mast(0, 9);
        x.sheet(0, 270);
        x.cell(0, House.noon(0), 1);
        x.programme(0, 12, 13);
        Due.is("1 listens", x.schedule(0, 0), 1);
        x.programme(1, 12, 13);
        Due.is("10000 listen", x.schedule(0, 0), 10000);
    }

    private static House eightLands() {
        House x = States.furnished();
        for (int k = 3; k < 8; k++) {
            Due.is("a LAND", x.ground(k, 3, k), k);
        }
        return x;
    }

    /** "LANDS, 8 at most"; "NONE, and nothing happens: 8 are there". */
    private static void landsAtMost() {
        Refused.none("a 9th LAND", GroundEdgesTest::eightLands, x -> x.ground(0, 0, 1));
        House x = eightLands();
        x.ground(0, 0, 1);
        Due.is("8 LANDS", x.count(0), 8);
        Due.is("the last of them", x.way(0, 7, 0), 7);
        Due.is("there is no LAND 8", x.way(0, 8, 0), -1);
        Due.is("SITES are not full", x.ground(0, 0, 0), 2);
    }

    private static House fourSites() {
        House x = States.furnished();
        Due.is("a SITE", x.ground(4, 3, 0), 2);
        Due.is("a SITE", x.ground(6, 3, 0), 3);
        return x;
    }

    /** "SITES, 4 at most"; "NONE, and nothing happens: 4 are there". */
    private static void sitesAtMost() {
        Refused.none("a 5th SITE", GroundEdgesTest::fourSites, x -> x.ground(0, 0, 0));
        House x = fourSites();
        x.ground(0, 0, 0);
        Due.is("4 SITES", x.count(1), 4);
        Due.is("the last of them", x.way(3, 0, 0), 6);
        Due.is("there is no SITE 4", x.way(4, 0, 0), -1);
        Due.is("LANDS are not full", x.ground(0, 0, 1), 3);
    }

    /** "its number (LANDS, SITES each by themselves)". */
    private static void numberedByThemselves() {
        House x = new House();
        for (int k = 0; k < 4; k++) {
            Due.is("LAND " + 2 * k, x.ground(k, 0, 1), 2 * k);
            Due.is("SITE " + k, x.ground(k, 0, 0), k);
            Due.is("LAND " + (2 * k + 1), x.ground(k, 0, 1), 2 * k + 1);
        }
    }

    /** "NONE, and nothing happens: no such SITE". */
    private static void mastsSite() {
        for (int site : new int[] {-1, 2, 3, 4, MIN, MAX}) {
            Refused.none("mast(" + site + ", 5)", x -> x.mast(site, 5));
        }
        Refused.none("a MAST where nothing is", House::new, x -> x.mast(0, 5));
        Due.is("SITE 0", States.furnished().mast(0, 5), 2);
        Due.is("the last SITE", States.furnished().mast(1, 5), 2);
        House x = new House();
        x.ground(0, 3, 1);
        Due.is("a LAND is no SITE", x.mast(0, 5), -1);
    }

    /** "a POWER (1 .. 9)"; "NONE, and nothing happens: no such POWER". */
    private static void power() {
        for (int power : new int[] {-1, 0, 10, MIN, MAX}) {
            Refused.none("mast(0, " + power + ")", x -> x.mast(0, power));
        }
        House x = States.small();
        Due.is("mast(0, 1)", x.mast(0, 1), 1);
        Due.is("mast(0, 9)", x.mast(0, 9), 2);
        x.sheet(0, 270);
        Due.is("POWER 1", x.strength(1, 0, 0, 0, 12, 0), 1);
        Due.is("POWER 9", x.strength(2, 0, 0, 0, 12, 0), 9);
    }

    private static House sixMasts() {
        House x = States.furnished();
        for (int m = 2; m < 6; m++) {
            Due.is("a MAST", x.mast(m % 2, m), m);
        }
        return x;
    }

    /** "MASTS, 6 at most"; "NONE, and nothing happens: 6 are there". */
    private static void mastsAtMost() {
        Refused.none("a 7th MAST", GroundEdgesTest::sixMasts, x -> x.mast(0, 9));
        House x = sixMasts();
        x.mast(0, 9);
        Due.is("6 MASTS", x.count(2), 6);
        Due.is("the last of them", x.strength(5, 0, 0, 0, 12, 0) - x.strength(3, 0, 0, 0, 12, 0), 2);
        Due.is("there is no MAST 6", x.strength(6, 0, 0, 0, 12, 0), -1000000);
    }

    /** "NONE, and nothing happens: no such LAND". */
    private static void programmesLand() {
        for (int land : new int[] {-1, 3, 4, 8, MIN, MAX}) {
            Refused.none("programme(" + land + ", 0, 1)", x -> x.programme(land, 0, 1));
        }
        Refused.none("a PROGRAMME where nothing is", House::new, x -> x.programme(0, 0, 1));
        Due.is("LAND 0", States.furnished().programme(0, 0, 1), 2);
        Due.is("the last LAND", States.furnished().programme(2, 0, 1), 2);
        House x = new House();
        x.ground(0, 3, 0);
        Due.is("a SITE is no LAND", x.programme(0, 0, 1), -1);
    }

    /** "NONE, and nothing happens: from is not 0 .. until - 1, until above 24". */
    private static void programmesHours() {
        int[][] wrong = {{-1, 1}, {-1, 0}, {-1, 24}, {0, 0}, {1, 1}, {2, 1}, {23, 23}, {24, 24}, {24, 23}, {0, 25}, {23, 25}, {24, 25},
            {0, -1}, {-2, -1}, {MIN, 1}, {MAX, 24}, {MAX, MIN}, {0, MAX}, {0, MIN}, {MIN, MIN}, {MIN, MAX}, {MAX, MAX}};
        for (int[] w : wrong) {
            Refused.none("programme(0, " + w[0] + ", " + w[1] + ")", x -> x.programme(0, w[0], w[1]));
        }
        int[][] right = {{0, 1}, {0, 24}, {22, 23}, {22, 24}, {23, 24}};
        for (int[] r : right) {
            Due.is("programme(0, " + r[0] + ", " + r[1] + ")", States.furnished().programme(0, r[0], r[1]), 2);
        }
    }

    private static House tenProgrammes() {
        House x = States.furnished();
        for (int p = 2; p < 10; p++) {
            Due.is("a PROGRAMME", x.programme(p % 3, p, 24), p);
        }
        return x;
    }

    /** "PROGRAMMES, 10 at most"; "NONE, and nothing happens: 10 are there". */
    private static void programmesAtMost() {
        Refused.none("an 11th PROGRAMME", GroundEdgesTest::tenProgrammes, x -> x.programme(0, 0, 24));
        House x = tenProgrammes();
        x.programme(0, 0, 24);
        Due.is("10 PROGRAMMES", x.count(3), 10);
        x.schedule(0, 0);
        Due.is("the last of them is there", x.slot(0, 9, 3), 0);
        Due.is("there is no PROGRAMME 10", x.slot(0, 10, 3), -1);
    }
}
