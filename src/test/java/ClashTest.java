/** Promises 13, 18 and 19: NOTICES, CLASHES, and who yields. */
public final class ClashTest {
    public static void main(String[] args) {
        whatClashes();
        nearness();
        firstOfSome();
        byPower();
        wrongOnes();
        Due.end();
    }

    private static House house() {
        House x = new House();
        x.ground(0, 3, 10);
        x.ground(12, 3, 10);
        x.ground(0, 3, 0);
        x.mast(0, 4);
        x.notice(2, 5, 8, 0, 100);
        return x;
    }

    private static void whatClashes() {
        House x = house();
        x.readText("we yield;");
        int[][] due = {{2, 0, 100, 5, 0}, {2, 0, 100, 7, 0}, {2, 0, 3599, 6, 0}, {2, 0, 99, 6, -1}, {2, 0, 100, 4, -1},
            {2, 0, 100, 8, -1}, {1, 0, 100, 6, -1}, {2, 1, 100, 6, -1}};
        for (int[] d : due) {
            String at = " band " + d[0] + " land " + d[1] + " day " + d[2] + " hour " + d[3];
            Due.is("yields" + at, x.yields(0, d[0], d[1], d[2], d[3], 1), d[4]);
            Due.is("rule" + at, x.rule(0, d[0], d[1], d[2], d[3], 0), d[4]);
        }
        Due.is("not yet known", x.yields(0, 2, 0, 100, 6, 0), -1);
        x.readText("");
        Due.is("without rules we yield", x.yields(0, 2, 0, 100, 6, 1), 0);
        Due.is("by none", x.rule(0, 2, 0, 100, 6, 0), -1);
        x.readText("they yield;");
        Due.is("they yield", x.yields(0, 2, 0, 100, 6, 1), -1);
        Due.is("by rule 0", x.rule(0, 2, 0, 100, 6, 0), 0);
    }

    /** FAR 0 is a WAY below 5, over a pole, too. */
    private static void nearness() {
        int[][] due = {{0, 3, 4, 3, 1}, {0, 3, 5, 3, 0}, {0, 3, 2, 5, 1}, {0, 3, 2, 6, 0}, {0, 0, 12, 0, 1}, {0, 0, 12, 3, 1},
            {0, 1, 12, 3, 0}, {0, 6, 9, 6, 1}, {0, 6, 8, 6, 0}, {22, 4, 1, 4, 1}};
        for (int[] d : due) {
            House x = new House();
            x.ground(d[0], d[1], 10);
            x.ground(d[2], d[3], 10);
            x.ground(0, 3, 0);
            x.mast(0, 4);
            x.notice(0, 0, 24, 1, 0);
            x.notice(1, 0, 24, 0, 0);
            String at = " from " + d[0] + "," + d[1] + " to " + d[2] + "," + d[3];
            Due.is("near" + at, x.yields(0, 0, 0, 0, 0, 2), d[4] == 1 ? 0 : -1);
            Due.is("near back" + at, x.yields(0, 1, 1, 0, 0, 2), d[4] == 1 ? 1 : -1);
        }
    }

    private static void firstOfSome() {
        House x = house();
        x.report(0, 0, 2, 6, 0);
        x.notice(2, 6, 7, 0, 0);
        x.notice(3, 6, 7, 0, 0);
        x.notice(2, 0, 24, 0, 0);
        Due.is("day 100", x.yields(0, 2, 0, 100, 6, 5), 0);
        Due.is("day 99", x.yields(0, 2, 0, 99, 6, 5), 2);
        Due.is("hour 9", x.yields(0, 2, 0, 99, 9, 5), 4);
        Due.is("hour 9, known by 4", x.yields(0, 2, 0, 99, 9, 4), -1);
        x.readText("they yield if notice == 0; we yield if notice == 4; they yield;");
        Due.is("the first that we yield to", x.yields(0, 2, 0, 100, 6, 5), 4);
        Due.is("rule for 0", x.rule(0, 2, 0, 100, 6, 0), 0);
        Due.is("rule for 2", x.rule(0, 2, 0, 100, 6, 2), 2);
        Due.is("rule for 4", x.rule(0, 2, 0, 100, 6, 4), 1);
        Due.is("rule for a report", x.rule(0, 2, 0, 100, 6, 1), -1);
        Due.is("rule for another band", x.rule(0, 2, 0, 100, 6, 3), -1);
    }

    private static void byPower() {
        House x = house();
        x.mast(0, 9);
        x.readText("we yield if 5 < power; they yield;");
        Due.is("mast 0", x.yields(0, 2, 0, 100, 6, 1), -1);
        Due.is("mast 1", x.yields(1, 2, 0, 100, 6, 1), 0);
        Due.is("mast 0", x.rule(0, 2, 0, 100, 6, 0), 1);
        Due.is("mast 1", x.rule(1, 2, 0, 100, 6, 0), 0);
    }

    private static void wrongOnes() {
        House x = house();
        x.readText("we yield;");
        int[][] wrong = {{-1, 2, 0, 100, 6, 1}, {1, 2, 0, 100, 6, 1}, {0, -1, 0, 100, 6, 1}, {0, 6, 0, 100, 6, 1},
            {0, 2, -1, 100, 6, 1}, {0, 2, 2, 100, 6, 1}, {0, 2, 0, -1, 6, 1}, {0, 2, 0, 3600, 6, 1}, {0, 2, 0, 100, -1, 1},
            {0, 2, 0, 100, 24, 1}};
        for (int[] w : wrong) {
            Due.is("wrong yields", x.yields(w[0], w[1], w[2], w[3], w[4], w[5]), -1);
            Due.is("wrong rule", x.rule(w[0], w[1], w[2], w[3], w[4], 0), -1);
        }
        Due.is("known by 2", x.yields(0, 2, 0, 100, 6, 2), -1);
        Due.is("known by -1", x.yields(0, 2, 0, 100, 6, -1), -1);
        Due.is("fact 1", x.rule(0, 2, 0, 100, 6, 1), -1);
        Due.is("fact -1", x.rule(0, 2, 0, 100, 6, -1), -1);
        for (int f = 1; f < 300; f++) {
            x.notice(2, 6, 7, 0, 0);
        }
        Due.is("fact 299", x.rule(0, 2, 0, 100, 6, 299), 0);
        Due.is("fact 300", x.rule(0, 2, 0, 100, 6, 300), -1);
        Due.is("fact 2 ** 31 - 1", x.rule(0, 2, 0, 100, 6, Integer.MAX_VALUE), -1);
        Due.is("known by 300", x.yields(0, 2, 0, 100, 6, 300), 0);
        Due.is("known by 301", x.yields(0, 2, 0, 100, 6, 301), -1);
    }
}
