/** Part I of the Terms and promises 14 and 15, edge by edge: WAYS and SUN. */
public final class PlaceEdgesTest {
    private static final int MIN = Integer.MIN_VALUE;
    private static final int MAX = Integer.MAX_VALUE;

    public static void main(String[] args) {
        lessNumberOfZones();
        aroundOrPole();
        northOfEqualOnes();
        far();
        eastAndWest();
        aims();
        aimsOverPoles();
        waysSite();
        waysLand();
        waysWhat();
        seasons();
        localHour();
        longDays();
        shortDays();
        otherDays();
        sunsPlace();
        sunsDay();
        sunsHour();
        Due.end();
    }

    /** From a SITE at a ZONE and BELT to a LAND: length, FAR, AIM, kind. */
    private static void way(int zs, int bs, int zl, int bl, int... due) {
        House x = new House();
        x.ground(zs, bs, 0);
        x.ground(zl, bl, 1);
        for (int what = 0; what < due.length; what++) {
            String from = "from " + zs + "," + bs + " to " + zl + "," + bl;
            Due.is("way " + from + " what " + what, x.way(0, 0, what), due[what]);
        }
    }

    /** "dx being the ring's less number of ZONES between them": over the ring's end, too. */
    private static void lessNumberOfZones() {
        way(23, 3, 0, 3, 1, 0, 2, 0);
        way(0, 3, 23, 3, 1, 0, 6, 0);
        way(20, 3, 3, 3, 7, 1, 2, 0);
        way(3, 3, 20, 3, 7, 1, 6, 0);
        way(0, 3, 9, 3, 9, 1, 2, 0);
        way(0, 3, 15, 3, 9, 1, 6, 0);
        way(0, 0, 11, 0, 2, 0, 0, 1);
        way(0, 0, 12, 0, 1, 0, 0, 1);
        way(0, 0, 13, 0, 2, 0, 0, 1);
        way(23, 0, 11, 0, 1, 0, 0, 1);
    }

    /** "The WAY is the shortest": where AROUND is shorter by one, and where a pole is. */
    private static void aroundOrPole() {
        way(0, 0, 6, 0, 6, 1, 2, 0);
        way(0, 0, 7, 0, 6, 1, 0, 1);
        way(0, 6, 6, 6, 6, 1, 2, 0);
        way(0, 6, 7, 6, 6, 1, 4, 2);
        way(0, 2, 8, 2, 8, 1, 2, 0);
        way(0, 2, 9, 2, 8, 1, 0, 1);
        way(0, 4, 8, 4, 8, 1, 2, 0);
        way(0, 4, 9, 4, 8, 1, 4, 2);
        way(0, 3, 9, 3, 9, 1, 2, 0);
        way(0, 3, 10, 3, 9, 1, 0, 1);
        way(0, 3, 14, 3, 9, 1, 0, 1);
        way(0, 0, 6, 6, 12, 2, 3, 0);
        way(0, 0, 7, 6, 12, 2, 0, 1);
        way(0, 6, 7, 0, 12, 2, 0, 1);
    }

    /** "of equal ones AROUND, then NORTH": NORTH and SOUTH are equal where the BELTS are 6 together. */
    private static void northOfEqualOnes() {
        way(0, 3, 12, 3, 7, 1, 0, 1);
        way(0, 2, 12, 4, 7, 1, 0, 1);
        way(0, 0, 12, 6, 7, 1, 0, 1);
        way(0, 6, 12, 0, 7, 1, 0, 1);
        way(0, 3, 12, 4, 6, 1, 4, 2);
        way(0, 3, 12, 2, 6, 1, 0, 1);
        way(0, 4, 12, 3, 6, 1, 4, 2);
        way(0, 6, 12, 1, 6, 1, 4, 2);
        way(0, 5, 12, 0, 6, 1, 0, 1);
    }

    /** "Its FAR is its length / 5, at most 4". */
    private static void far() {
        way(0, 3, 0, 3, 0, 0, 0, 0);
        way(0, 3, 4, 3, 4, 0, 2, 0);
        way(0, 3, 5, 3, 5, 1, 2, 0);
        way(0, 3, 9, 3, 9, 1, 2, 0);
        way(0, 2, 9, 3, 9, 1, 0, 1);
        way(0, 2, 8, 4, 10, 2, 3, 0);
        way(0, 0, 12, 3, 4, 0, 0, 1);
        way(0, 1, 12, 3, 5, 1, 0, 1);
        way(0, 0, 6, 6, 12, 2, 3, 0);
    }

    /** "east, if the other ZONE lies 1 .. 12 further on, west, if 13 .. 23". */
    private static void eastAndWest() {
        for (int further = 1; further <= 9; further++) {
            way(0, 3, further, 3, further, further / 5, 2, 0);
            way(20, 3, (20 + further) % 24, 3, further, further / 5, 2, 0);
        }
        for (int further = 15; further <= 23; further++) {
            way(0, 3, further, 3, 24 - further, (24 - further) / 5, 6, 0);
            way(20, 3, (20 + further) % 24, 3, 24 - further, (24 - further) / 5, 6, 0);
        }
    }

    /** "AROUND: 0 north, 1 north east, 2 east, .., 7 north west; 0 for the same place". */
    private static void aims() {
        int[][] due = {{0, 2, 0}, {1, 2, 1}, {1, 3, 2}, {1, 4, 3}, {0, 4, 4}, {23, 4, 5}, {23, 3, 6}, {23, 2, 7}, {0, 3, 0}};
        for (int[] d : due) {
            way(0, 3, d[0], d[1], Math.abs(d[1] - 3) + (d[0] == 0 ? 0 : 1), 0, d[2], 0);
        }
        way(23, 6, 23, 6, 0, 0, 0, 0);
        way(7, 0, 7, 0, 0, 0, 0, 0);
        way(7, 6, 7, 0, 6, 1, 0, 0);
        way(7, 0, 7, 6, 6, 1, 4, 0);
    }

    /** "Its AIM: NORTH 0, SOUTH 4": wherever the LAND lies. */
    private static void aimsOverPoles() {
        way(0, 0, 10, 1, 4, 0, 0, 1);
        way(0, 1, 14, 0, 4, 0, 0, 1);
        way(0, 6, 10, 5, 4, 0, 4, 2);
        way(0, 5, 14, 6, 4, 0, 4, 2);
    }

    /** "NONE for others": no such SITE. */
    private static void waysSite() {
        House x = States.furnished();
        for (int s : new int[] {-1, 2, 4, MIN, MAX}) {
            for (int what = 0; what < 4; what++) {
                Due.is("way(" + s + ", 0, " + what + ")", x.way(s, 0, what), -1);
            }
        }
        Due.is("the first", x.way(0, 1, 0), 5);
        Due.is("the last", x.way(1, 1, 0), 6);
    }

    /** "NONE for others": no such LAND. */
    private static void waysLand() {
        House x = States.furnished();
        for (int l : new int[] {-1, 3, 8, MIN, MAX}) {
            for (int what = 0; what < 4; what++) {
                Due.is("way(0, " + l + ", " + what + ")", x.way(0, l, what), -1);
            }
        }
        Due.is("the first", x.way(0, 0, 0), 0);
        Due.is("the last", x.way(0, 2, 0), 5);
    }

    /** "what 0: its length, 1: FAR, 2: AIM, 3: 0 AROUND, 1 NORTH, 2 SOUTH. NONE for others". */
    private static void waysWhat() {
        House x = States.furnished();
        for (int what : new int[] {-1, 4, 5, MIN, MAX}) {
            Due.is("way(0, 2, " + what + ")", x.way(0, 2, what), -1);
        }
        int[] due = {5, 1, 0, 1};
        for (int what = 0; what < 4; what++) {
            Due.is("way(0, 2, " + what + ")", x.way(0, 2, what), due[what]);
        }
    }

    private static int sun(int zone, int belt, int day, int hour) {
        House x = new House();
        x.ground(zone, belt, 0);
        x.ground(zone, belt, 1);
        int sun = x.sun(true, 0, day, hour);
        Due.is("SUN of a LAND as of a SITE", x.sun(false, 0, day, hour), sun);
        return sun;
    }

    /** "the SEASON is DAY / 90 % 4": at local 5 in the north, LONG days have 2, SHORT ones 0, others 1. */
    private static void seasons() {
        int[][] due = {{0, 1}, {89, 1}, {90, 2}, {179, 2}, {180, 1}, {269, 1}, {270, 0}, {359, 0}, {360, 1}, {449, 1}, {450, 2},
            {3239, 0}, {3240, 1}, {3509, 1}, {3510, 0}, {3599, 0}};
        for (int[] d : due) {
            Due.is("SUN on DAY " + d[0], sun(0, 0, d[0], 5), d[1]);
        }
    }

    /** "local is (HOUR + ZONE) % 24": up to the last HOUR in the last ZONE. */
    private static void localHour() {
        Due.is("0 + 7", sun(7, 3, 0, 0), 2);
        Due.is("23 + 23 is 22", sun(23, 3, 0, 23), 0);
        Due.is("1 + 23 is 0", sun(23, 3, 0, 1), 0);
        Due.is("8 + 23 is 7", sun(23, 3, 0, 8), 2);
        Due.is("7 + 23 is 6", sun(23, 3, 0, 7), 1);
        Due.is("23 + 8 is 7", sun(8, 3, 0, 23), 2);
        Due.is("23 + 7 is 6", sun(7, 3, 0, 23), 1);
        Due.is("12 + 12 is 0", sun(12, 3, 0, 12), 0);
        Due.is("11 + 12 is 23", sun(12, 3, 0, 11), 0);
    }

    private static void suns(String name, int belt, int day, int[][] due) {
        for (int[] d : due) {
            Due.is(name + " BELT " + belt + " DAY " + day + " local " + d[0], sun(0, belt, day, d[0]), d[1]);
        }
    }

    /** "LONG days (BELTS 0 .. 2 in SEASON 1, 4 .. 6 in SEASON 3): 2 from 5 to 18, 1 at 4 and 19, else 0". */
    private static void longDays() {
        int[][] due = {{0, 0}, {3, 0}, {4, 1}, {5, 2}, {12, 2}, {18, 2}, {19, 1}, {20, 0}, {23, 0}};
        for (int belt = 0; belt < 3; belt++) {
            suns("LONG", belt, 90, due);
            suns("LONG", 6 - belt, 270, due);
        }
    }

    /** "SHORT ones (BELTS 4 .. 6 in SEASON 1, 0 .. 2 in SEASON 3): 2 from 8 to 15, 1 at 7 and 16, else 0". */
    private static void shortDays() {
        int[][] due = {{0, 0}, {6, 0}, {7, 1}, {8, 2}, {12, 2}, {15, 2}, {16, 1}, {17, 0}, {23, 0}};
        for (int belt = 0; belt < 3; belt++) {
            suns("SHORT", belt, 270, due);
            suns("SHORT", 6 - belt, 90, due);
        }
    }

    /** "others: 2 from 7 to 16, 1 at 5, 6, 17, 18, else 0": BELT 3 always, all BELTS in SEASONS 0 and 2. */
    private static void otherDays() {
        int[][] due = {{0, 0}, {4, 0}, {5, 1}, {6, 1}, {7, 2}, {12, 2}, {16, 2}, {17, 1}, {18, 1}, {19, 0}, {23, 0}};
        for (int season = 0; season < 4; season++) {
            suns("other", 3, 90 * season, due);
        }
        for (int belt = 0; belt < 7; belt++) {
            suns("other", belt, 0, due);
            suns("other", belt, 180, due);
        }
    }

    /** "SUN at a LAND (site false) or SITE; NONE for others": no such LAND, no such SITE. */
    private static void sunsPlace() {
        House x = States.furnished();
        for (int k : new int[] {-1, 3, 8, MIN, MAX}) {
            Due.is("sun(false, " + k + ", ..)", x.sun(false, k, 0, 12), -1);
            Due.is("sun(true, " + k + ", ..)", x.sun(true, k, 0, 12), -1);
        }
        Due.is("the last LAND", x.sun(false, 2, 0, 12), 0);
        Due.is("there is no such SITE", x.sun(true, 2, 0, 12), -1);
        Due.is("the last SITE", x.sun(true, 1, 0, 12), 2);
        Due.is("the first LAND", x.sun(false, 0, 0, 6), 1);
        Due.is("the first SITE", x.sun(true, 0, 0, 6), 1);
        Due.is("LAND 1, which is not SITE 1", x.sun(false, 1, 0, 14), 0);
        Due.is("SITE 1, which is not LAND 1", x.sun(true, 1, 0, 14), 2);
    }

    /** "DAYS go from 0 to 3599"; "NONE for others". */
    private static void sunsDay() {
        House x = States.furnished();
        for (int day : new int[] {-1, 3600, MIN, MAX}) {
            Due.is("sun(false, 0, " + day + ", 12)", x.sun(false, 0, day, 12), -1);
            Due.is("sun(true, 0, " + day + ", 12)", x.sun(true, 0, day, 12), -1);
        }
        Due.is("the first DAY", x.sun(true, 0, 0, 12), 2);
        Due.is("the last DAY", x.sun(true, 0, 3599, 12), 2);
    }

    /** "HOURS 0 .. 23"; "NONE for others". */
    private static void sunsHour() {
        House x = States.furnished();
        for (int hour : new int[] {-1, 24, MIN, MAX}) {
            Due.is("sun(false, 0, 0, " + hour + ")", x.sun(false, 0, 0, hour), -1);
            Due.is("sun(true, 0, 0, " + hour + ")", x.sun(true, 0, 0, hour), -1);
        }
        Due.is("the first HOUR", x.sun(true, 0, 0, 0), 0);
        Due.is("the last HOUR", x.sun(true, 0, 0, 23), 0);
    }
}
