import java.nio.charset.StandardCharsets;
import java.util.Random;

/** Runs of 512 calls made by chance (the seeds are fixed), each answer against that of the plain Model. */
public final class ModelTest {
    /** The dearest thing to do: a text of 1,900 bytes. */
    private static final int DEAREST = 100;

    private final Random random;
    private final House x = new House();
    private final Model y = new Model();
    private final String run;
    /** Places near one another, so that NOTICES clash. */
    private final int spread;

    private ModelTest(int seed) {
        random = new Random(seed);
        run = "run " + seed + ": ";
        spread = seed % 3 == 0 ? 24 : 4;
    }

    public static void main(String[] args) {
        int runs = args.length > 0 ? Integer.parseInt(args[0]) : 6000;
        int first = args.length > 1 ? Integer.parseInt(args[1]) : 0;
        for (int seed = first; seed < first + runs && Due.wrong() < 20; seed++) {
            new ModelTest(seed).all();
        }
        Due.end();
    }

    private int upTo(int n) {
        return random.nextInt(n + 1);
    }

    /** Mostly 0 .. most, sometimes just beyond, seldom anything. */
    private int near(int most) {
        int luck = random.nextInt(60);
        if (luck == 0) {
            return -1;
        }
        if (luck == 1) {
            return most + 1;
        }
        return luck == 2 && random.nextInt(4) == 0 ? random.nextInt() : most < 0 ? 0 : upTo(most);
    }

    private void all() {
        int setting = House.CALLS - 30 - random.nextInt(60);
        if (random.nextInt(4) != 0) {
            furnish();
        }
        while (x.callsLeft() >= DEAREST && Due.wrong() < 20) {
            if (x.callsLeft() > setting || random.nextInt(4) == 0) {
                set();
            } else {
                ask();
            }
        }
        lastSchedule();
    }

    /** A house in which much can be heard: a REPORT puts its path right at every HOUR, a cell only at some. */
    private void furnish() {
        int much = 1 + random.nextInt(5);
        for (int k = 0; k < much; k++) {
            land();
            land();
            site();
            mast();
            programme();
            programme();
        }
        for (int season = 0; season < 2; season++) {
            int n = random.nextInt(5) == 0 ? random.nextInt(271) : 270;
            Due.is(run + "sheet", x.sheet(season, n), y.sheet(season, n));
        }
        int reports = random.nextInt(30);
        for (int k = 0; k < reports; k++) {
            report();
        }
        for (int k = 0; k < 80; k++) {
            int season = random.nextInt(4) == 0 ? 1 : 0;
            int i = (random.nextInt(9) * 5 + random.nextInt(3)) * 6 + random.nextInt(6);
            int v = random.nextInt(4) == 0 ? random.nextInt(60) - 30 : 5 + 5 * random.nextInt(4);
            Due.is(run + "cell", x.cell(season, i, v), y.cell(season, i, v));
        }
    }

    /** What is left of the calls goes to one more SCHEDULE and its slots. */
    private void lastSchedule() {
        int day = random.nextInt(4) == 0 ? random.nextInt(180) : random.nextInt(90);
        Due.is(run + "schedule", x.schedule(day, y.count(4)), y.schedule(day, y.count(4)));
        slots(x.callsLeft());
    }

    private void set() {
        switch (random.nextInt(13)) {
            case 0 -> land();
            case 1 -> site();
            case 2 -> mast();
            case 3 -> programme();
            case 4 -> sheet();
            case 5, 6, 7 -> cell();
            case 8 -> clock();
            case 9, 10 -> report();
            case 11 -> text();
            default -> notice();
        }
    }

    private void land() {
        int zone = spread == 24 ? near(23) : near(spread);
        int belt = near(6);
        int listeners = random.nextInt(2) == 0 ? 50 + random.nextInt(5) : 1 + near(9999);
        Due.is(run + "ground", x.ground(zone, belt, listeners), y.ground(zone, belt, listeners));
    }

    private void site() {
        int zone = near(23);
        int belt = near(6);
        Due.is(run + "ground", x.ground(zone, belt, 0), y.ground(zone, belt, 0));
    }

    private void mast() {
        int site = near(y.count(1) - 1);
        int power = 1 + near(8);
        Due.is(run + "mast", x.mast(site, power), y.mast(site, power));
    }

    private void programme() {
        int land = near(y.count(0) - 1);
        int from = near(23);
        int until = from + near(12);
        Due.is(run + "programme", x.programme(land, from, until), y.programme(land, from, until));
    }

    private void sheet() {
        int season = near(3);
        int n = random.nextInt(8) == 0 ? near(270) : 270;
        if (random.nextInt(30) == 0) {
            n = -1;
        }
        Due.is(run + "sheet", x.sheet(season, n), y.sheet(season, n));
    }

    private void cell() {
        int season = near(3);
        int v = random.nextInt(5) == 0 ? near(198) - 99 : random.nextInt(3) * 10;
        int i = near(269);
        for (int k = 0; k < 6; k++) {
            int j = i + k * 6;
            Due.is(run + "cell", x.cell(season, j, v), y.cell(season, j, v));
        }
    }

    private void clock() {
        int d = random.nextInt(3) == 0 ? near(3599) : y.count(6) + random.nextInt(60) - 10;
        d = random.nextInt(20) != 0 && d > 200 ? y.count(6) : d;
        Due.is(run + "clock", x.clock(d), y.clock(d));
    }

    private void report() {
        int site = near(y.count(1) - 1);
        int land = near(y.count(0) - 1);
        int band = random.nextInt(3) != 0 ? random.nextInt(2) : near(5);
        int hour = near(23);
        int heard = random.nextInt(2) == 0 ? near(198) - 99 : near(40) - 10;
        Due.is(run + "report", x.report(site, land, band, hour, heard), y.report(site, land, band, hour, heard));
    }

    private void notice() {
        int band = random.nextInt(3) != 0 ? random.nextInt(2) : near(5);
        int from = random.nextInt(3) != 0 ? 0 : near(23);
        int until = Math.min(24, from + near(24));
        int land = near(y.count(0) - 1);
        int day = random.nextInt(3) != 0 ? near(5) : day();
        Due.is(run + "notice", x.notice(band, from, until, land, day), y.notice(band, from, until, land, day));
    }

    private int day() {
        return random.nextInt(8) == 0 ? near(3599) : near(179);
    }

    private void text() {
        byte[] bytes = new TextMaker(random).make().getBytes(StandardCharsets.ISO_8859_1);
        for (int i = 0; i < bytes.length; i += 20) {
            int[] w = new int[5];
            for (int k = 0; k < 20; k++) {
                w[k / 4] = w[k / 4] << 8 | (i + k < bytes.length ? bytes[i + k] & 255 : 32);
            }
            Due.is(run + "feed", x.feed(w[0], w[1], w[2], w[3], w[4]), y.feed(w));
        }
        int n = random.nextInt(10) == 0 ? near(40) : (20 - bytes.length % 20) % 20;
        Due.is(run + "back", x.back(n), y.back(n));
        if (random.nextInt(20) != 0) {
            Due.is(run + "read", x.read(), y.read());
            Due.is(run + "place", x.place(), y.place());
        }
        Due.is(run + "count(5)", x.count(5), y.count(5));
    }

    private void ask() {
        int m = near(y.count(2) - 1);
        int band = near(5);
        int site = near(y.count(1) - 1);
        int land = near(y.count(0) - 1);
        int day = day();
        int hour = near(23);
        int n = random.nextBoolean() ? y.count(4) : near(y.count(4));
        int f = near(y.count(4) - 1);
        int what = near(3);
        switch (random.nextInt(11)) {
            case 0 -> Due.is(run + "way", x.way(site, land, what), y.way(site, land, what));
            case 1 -> sun(site, land, day, hour);
            case 2 -> {
                for (int b = 0; b < 6; b++) {
                    Due.is(run + "correction", x.correction(site, land, b, n), y.correction(site, land, b, n));
                }
            }
            case 3 -> Due.is(run + "strength", x.strength(m, band, land, day, hour, n), y.strength(m, band, land, day, hour, n));
            case 4 -> Due.is(run + "yields", x.yields(m, band, land, day, hour, n), y.yields(m, band, land, day, hour, n));
            case 5 -> Due.is(run + "rule", x.rule(m, band, land, day, hour, f), y.rule(m, band, land, day, hour, f));
            case 6 -> schedule(day, n);
            case 7 -> {
                int count = near(7);
                Due.is(run + "count", x.count(count), y.count(count));
            }
            case 8 -> Due.is(run + "listeners", x.listeners(hour), y.listeners(hour));
            case 9 -> {
                int p = near(y.count(3) - 1);
                Due.is(run + "slot", x.slot(hour, p, what), y.slot(hour, p, what));
            }
            default -> clashing(m, day);
        }
    }

    private void sun(int site, int land, int day, int hour) {
        boolean atSite = random.nextBoolean();
        int k = atSite ? site : land;
        Due.is(run + "sun", x.sun(atSite, k, day, hour), y.sun(atSite, k, day, hour));
    }

    private void schedule(int day, int n) {
        if (random.nextInt(6) == 0) {
            Due.is(run + "schedule", x.schedule(day, n), y.schedule(day, n));
            slots(40);
        }
    }

    private void slots(int calls) {
        for (int k = 0; k < calls; k++) {
            int hour = random.nextInt(24);
            int p = random.nextInt(Math.max(1, y.count(3)));
            int what = random.nextInt(5);
            if (what == 4) {
                Due.is(run + "listeners", x.listeners(hour), y.listeners(hour));
            } else {
                Due.is(run + "slot", x.slot(hour, p, what), y.slot(hour, p, what));
            }
        }
    }

    /** Some NOTICES at each BAND, that CLASHES be found. */
    private void clashing(int m, int day) {
        int hour = random.nextInt(24);
        for (int band = 0; band < 6; band++) {
            int land = near(y.count(0) - 1);
            int f = y.yields(m, band, land, day, hour, y.count(4));
            Due.is(run + "yields", x.yields(m, band, land, day, hour, y.count(4)), f);
            for (int k = 0; k < 5; k++) {
                int g = k == 0 ? f : near(y.count(4) - 1);
                Due.is(run + "rule", x.rule(m, band, land, day, hour, g), y.rule(m, band, land, day, hour, g));
            }
        }
    }
}
