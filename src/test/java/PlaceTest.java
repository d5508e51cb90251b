/** Promises 14 and 15: WAYS and SUN, each place against a table or a plain reckoning of the test's own. */
public final class PlaceTest {
    public static void main(String[] args) {
        allWays();
        namedWays();
        wrongWays();
        allSuns();
        wrongSuns();
        Due.end();
    }

    private static House house(int zs, int bs, int zl, int bl) {
        House x = new House();
        x.ground(zs, bs, 0);
        x.ground(zl, bl, 1);
        return x;
    }

    private static void allWays() {
        for (int zs = 0; zs < 24; zs += 5) {
            for (int bs = 0; bs < 7; bs++) {
                for (int zl = 0; zl < 24; zl++) {
                    for (int bl = 0; bl < 7; bl++) {
                        oneWay(zs, bs, zl, bl);
                    }
                }
            }
        }
    }

    private static void oneWay(int zs, int bs, int zl, int bl) {
        House x = house(zs, bs, zl, bl);
        int steps = 0;
        while ((zs + steps) % 24 != zl && (zs - steps + 24) % 24 != zl) {
            steps++;
        }
        boolean east = steps > 0 && (zs + steps) % 24 == zl;
        boolean west = steps > 0 && !east;
        int[] lengths = {steps + (bl > bs ? bl - bs : bs - bl), bs + bl + 1 + 12 - steps, 6 - bs + (6 - bl) + 1 + 12 - steps};
        int kind = 0;
        for (int k = 1; k < 3; k++) {
            kind = lengths[k] < lengths[kind] ? k : kind;
        }
        String rose = (bl < bs ? "n" : bl > bs ? "s" : "") + (east ? "e" : west ? "w" : "");
        int aim = kind == 1 ? 0 : kind == 2 ? 4 : switch (rose) {
            case "", "n" -> 0;
            case "ne" -> 1;
            case "e" -> 2;
            case "se" -> 3;
            case "s" -> 4;
            case "sw" -> 5;
            case "w" -> 6;
            default -> 7;
        };
        int length = lengths[kind];
        int far = length < 5 ? 0 : length < 10 ? 1 : length < 15 ? 2 : length < 20 ? 3 : 4;
        String call = "way from " + zs + "," + bs + " to " + zl + "," + bl + " what ";
        Due.is(call + 0, x.way(0, 0, 0), length);
        Due.is(call + 1, x.way(0, 0, 1), far);
        Due.is(call + 2, x.way(0, 0, 2), aim);
        Due.is(call + 3, x.way(0, 0, 3), kind);
    }

    private static void namedWays() {
        Due.is("same place: aim", house(5, 2, 5, 2).way(0, 0, 2), 0);
        Due.is("five on is east", house(20, 3, 1, 3).way(0, 0, 2), 2);
        Due.is("nineteen on is west", house(20, 3, 15, 3).way(0, 0, 2), 6);
        Due.is("north is shorter", house(0, 3, 10, 3).way(0, 0, 3), 1);
        Due.is("north ahead of south", house(0, 3, 12, 3).way(0, 0, 3), 1);
        Due.is("over the south", house(0, 6, 12, 6).way(0, 0, 3), 2);
        Due.is("over the south: length", house(0, 6, 12, 6).way(0, 0, 0), 1);
        Due.is("over the south: aim", house(0, 6, 12, 6).way(0, 0, 2), 4);
    }

    private static void wrongWays() {
        House x = house(0, 0, 0, 0);
        int[][] wrong = {{-1, 0, 0}, {1, 0, 0}, {0, -1, 0}, {0, 1, 0}, {0, 0, -1}, {0, 0, 4}};
        for (int[] w : wrong) {
            Due.is("wrong way", x.way(w[0], w[1], w[2]), -1);
        }
    }

    private static void allSuns() {
        String longDay = "000012222222222222210000";
        String shortDay = "000000012222222210000000";
        String other = "000001122222222221100000";
        for (int belt = 0; belt < 7; belt++) {
            for (int zone = 0; zone < 24; zone++) {
                House x = new House();
                x.ground(zone, belt, 0);
                x.ground(zone, belt, 9);
                for (int season = 0; season < 4; season++) {
                    boolean summer = season == 1 && belt <= 2 || season == 3 && belt >= 4;
                    boolean winter = season == 1 && belt >= 4 || season == 3 && belt <= 2;
                    String day = summer ? longDay : winter ? shortDay : other;
                    for (int hour = 0; hour < 24; hour++) {
                        int due = day.charAt((hour + zone) % 24) - '0';
                        String call = "sun belt " + belt + " zone " + zone + " season " + season + " hour " + hour;
                        Due.is(call, x.sun(true, 0, season * 90, hour), due);
                        Due.is(call, x.sun(false, 0, season * 90 + 89 + 360 * 9, hour), due);
                    }
                }
            }
        }
    }

    private static void wrongSuns() {
        House x = house(0, 0, 0, 0);
        x.ground(0, 0, 1);
        int[][] wrong = {{-1, 0, 0}, {2, 0, 0}, {0, -1, 0}, {0, 3600, 0}, {0, 0, -1}, {0, 0, 24}};
        for (int[] w : wrong) {
            Due.is("wrong sun", x.sun(false, w[0], w[1], w[2]), -1);
            Due.is("wrong sun", x.sun(true, w[0], w[1], w[2]), -1);
        }
        Due.is("no site 1", x.sun(true, 1, 0, 0), -1);
        Due.is("land 1", x.sun(false, 1, 3599, 23), 0);
    }
}
