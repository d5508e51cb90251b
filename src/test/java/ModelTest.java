import java.nio.charset.StandardCharsets;
import java.util.Random;

/** Runs of 512 calls made by chance (the seeds are fixed), each answer against that of the plain Model. */
public final class ModelTest {
    private static final int CALLS = 512;

    private final Random random;
    private final WaveHouse x = new WaveHouse();
    private final Model y = new Model();
    private final String run;
    /** Places near one another, so that NOTICES clash. */
    private final int spread;

    private ModelTest(int seed) {
        random = new Random(seed);
        run = "run " + seed + ": ";
        spread = seed % 3 == 0 ? 24 : 4;
    }

    public static void main(String[] args) {
        int runs = args.length > 0 ? Integer.parseInt(args[0]) : 400;
        int first = args.length > 1 ? Integer.parseInt(args[1]) : 0;
        for (int seed = first; seed < first + runs && Due.wrong() < 20; seed++) {
            new ModelTest(seed).all();
        }
        Due.end();
    }

    private int upTo(int n) {
        return random.nextInt(n + 1);
    }

    /** Mostly 0 .. most, sometimes just beyond, seldom anything. */
    private int near(int most) {
        int luck = random.nextInt(60);
        if (luck == 0) {
            return -1;
        }
        if (luck == 1) {
            return most + 1;
        }
        return luck == 2 && random.nextInt(4) == 0 ? random.nextInt() : most < 0 ? 0 : upTo(most);
    }

    private void all() {
        int calls = 0;
        int setting = 30 + random.nextInt(60);
        if (random.nextInt(4) != 0) {
            furnish();
        }
        while (calls < CALLS && Due.wrong() < 20) {
            calls += calls < setting ? set() : random.nextInt(4) == 0 ? set() : ask();
        }
    }

    /** A house in which much can be heard; the object is used for more calls than is promised, which it bears. */
    private void furnish() {
        int much = 1 + random.nextInt(5);
        for (int k = 0; k < much; k++) {
            land();
            land();
            site();
            mast();
            programme();
            programme();
        }
        for (int season = 0; season < 2; season++) {
            int n = random.nextInt(5) == 0 ? random.nextInt(271) : 270;
            Due.is(run + "sheet", x.sheet(season, n), y.sheet(season, n));
            for (int i = 0; i < n; i++) {
                int v = random.nextInt(4) == 0 ? random.nextInt(60) - 30 : 5 * random.nextInt(4);
                Due.is(run + "cell", x.cell(season, i, v), y.cell(season, i, v));
            }
        }
    }

    private int set() {
        switch (random.nextInt(13)) {
            case 0: return land();
            case 1: return site();
            case 2: return mast();
            case 3: return programme();
            case 4: return sheet();
            case 5: case 6: case 7: return cell();
            case 8: return clock();
            case 9: case 10: return report();
            case 11: return text();
            default: return notice();
        }
    }

    private int land() {
        int zone = spread == 24 ? near(23) : near(spread);
        int belt = near(6);
        int listeners = random.nextInt(2) == 0 ? 50 + random.nextInt(5) : 1 + near(9999);
        Due.is(run + "ground", x.ground(zone, belt, listeners), y.ground(zone, belt, listeners));
        return 1;
    }

    private int site() {
        int zone = near(23);
        int belt = near(6);
        Due.is(run + "ground", x.ground(zone, belt, 0), y.ground(zone, belt, 0));
        return 1;
    }

    private int mast() {
        int site = near(y.count(1) - 1);
        int power = 1 + near(8);
        Due.is(run + "mast", x.mast(site, power), y.mast(site, power));
        return 1;
    }

    private int programme() {
        int land = near(y.count(0) - 1);
        int from = near(23);
        int until = from + near(12);
        Due.is(run + "programme", x.programme(land, from, until), y.programme(land, from, until));
        return 1;
    }

    private int sheet() {
        int season = near(3);
        int n = random.nextInt(8) == 0 ? near(270) : 270;
        if (random.nextInt(30) == 0) {
            n = -1;
        }
        Due.is(run + "sheet", x.sheet(season, n), y.sheet(season, n));
        return 1;
    }

    private int cell() {
        int season = near(3);
        int v = random.nextInt(5) == 0 ? near(198) - 99 : random.nextInt(3) * 10;
        int i = near(269);
        for (int k = 0; k < 6; k++) {
            int j = i + k * 6;
            Due.is(run + "cell", x.cell(season, j, v), y.cell(season, j, v));
        }
        return 6;
    }

    private int clock() {
        int d = random.nextInt(3) == 0 ? near(3599) : y.count(6) + random.nextInt(60) - 10;
        d = random.nextInt(20) != 0 && d > 200 ? y.count(6) : d;
        Due.is(run + "clock", x.clock(d), y.clock(d));
        return 1;
    }

    private int report() {
        int site = near(y.count(1) - 1);
        int land = near(y.count(0) - 1);
        int band = random.nextInt(3) != 0 ? random.nextInt(2) : near(5);
        int hour = near(23);
        int heard = random.nextInt(2) == 0 ? near(198) - 99 : near(40) - 10;
        Due.is(run + "report", x.report(site, land, band, hour, heard), y.report(site, land, band, hour, heard));
        return 1;
    }

    private int notice() {
        int band = random.nextInt(3) != 0 ? random.nextInt(2) : near(5);
        int from = random.nextInt(3) != 0 ? 0 : near(23);
        int until = Math.min(24, from + near(24));
        int land = near(y.count(0) - 1);
        int day = random.nextInt(3) != 0 ? near(5) : day();
        Due.is(run + "notice", x.notice(band, from, until, land, day), y.notice(band, from, until, land, day));
        return 1;
    }

    private int day() {
        return random.nextInt(8) == 0 ? near(3599) : near(179);
    }

    private int text() {
        byte[] bytes = new TextMaker(random).make().getBytes(StandardCharsets.ISO_8859_1);
        int calls = 0;
        for (int i = 0; i < bytes.length; i += 20) {
            int[] w = new int[5];
            for (int k = 0; k < 20; k++) {
                w[k / 4] = w[k / 4] << 8 | (i + k < bytes.length ? bytes[i + k] & 255 : 32);
            }
            Due.is(run + "feed", x.feed(w[0], w[1], w[2], w[3], w[4]), y.feed(w));
            calls++;
        }
        int n = random.nextInt(10) == 0 ? near(40) : (20 - bytes.length % 20) % 20;
        Due.is(run + "back", x.back(n), y.back(n));
        if (random.nextInt(20) != 0) {
            Due.is(run + "read", x.read(), y.read());
            Due.is(run + "place", x.place(), y.place());
        }
        Due.is(run + "count(5)", x.count(5), y.count(5));
        return calls + 3;
    }

    private int ask() {
        int m = near(y.count(2) - 1);
        int band = near(5);
        int site = near(y.count(1) - 1);
        int land = near(y.count(0) - 1);
        int day = day();
        int hour = near(23);
        int n = random.nextBoolean() ? y.count(4) : near(y.count(4));
        int f = near(y.count(4) - 1);
        int what = near(3);
        switch (random.nextInt(11)) {
            case 0:
                Due.is(run + "way", x.way(site, land, what), y.way(site, land, what));
                return 1;
            case 1:
                boolean atSite = random.nextBoolean();
                int k = atSite ? site : land;
                Due.is(run + "sun", x.sun(atSite, k, day, hour), y.sun(atSite, k, day, hour));
                return 1;
            case 2:
                for (int b = 0; b < 6; b++) {
                    Due.is(run + "correction", x.correction(site, land, b, n), y.correction(site, land, b, n));
                }
                return 6;
            case 3:
                Due.is(run + "strength", x.strength(m, band, land, day, hour, n), y.strength(m, band, land, day, hour, n));
                return 1;
            case 4:
                Due.is(run + "yields", x.yields(m, band, land, day, hour, n), y.yields(m, band, land, day, hour, n));
                return 1;
            case 5:
                Due.is(run + "rule", x.rule(m, band, land, day, hour, f), y.rule(m, band, land, day, hour, f));
                return 1;
            case 6:
                if (random.nextInt(6) != 0) {
                    return 0;
                }
                Due.is(run + "schedule", x.schedule(day, n), y.schedule(day, n));
                return 1 + wholeSchedule();
            case 7:
                int count = near(7);
                Due.is(run + "count", x.count(count), y.count(count));
                return 1;
            case 8:
                Due.is(run + "listeners", x.listeners(hour), y.listeners(hour));
                return 1;
            case 9:
                int p = near(y.count(3) - 1);
                Due.is(run + "slot", x.slot(hour, p, what), y.slot(hour, p, what));
                return 1;
            default:
                return clashing(m, day);
        }
    }

    /** Looks at all of it, though that is more calls than an object is promised for: they change nothing. */
    private int wholeSchedule() {
        for (int hour = 0; hour < 24; hour++) {
            Due.is(run + "listeners", x.listeners(hour), y.listeners(hour));
            for (int p = 0; p < 10; p++) {
                for (int what = 0; what < 4; what++) {
                    Due.is(run + "slot", x.slot(hour, p, what), y.slot(hour, p, what));
                }
            }
        }
        return 0;
    }

    /** Each NOTICE at each BAND, that CLASHES be found. */
    private int clashing(int m, int day) {
        int hour = random.nextInt(24);
        for (int band = 0; band < 6; band++) {
            int land = near(y.count(0) - 1);
            int f = y.yields(m, band, land, day, hour, y.count(4));
            Due.is(run + "yields", x.yields(m, band, land, day, hour, y.count(4)), f);
            for (int g = 0; g < y.count(4); g++) {
                Due.is(run + "rule", x.rule(m, band, land, day, hour, g), y.rule(m, band, land, day, hour, g));
            }
        }
        return 12;
    }
}
