import java.nio.charset.StandardCharsets;

/** A WaveHouse whose calls are counted: behind the 512th the document promises nothing, so no test may go on there. */
final class House {
    static final int CALLS = 512;

    private final WaveHouse house = new WaveHouse();
    private int calls = 0;

    private WaveHouse next() {
        calls++;
        if (calls > CALLS) {
            throw new IllegalStateException("a test uses an object for more than " + CALLS + " calls");
        }
        return house;
    }

    int callsLeft() {
        return CALLS - calls;
    }

    int feed(int a, int b, int c, int d, int e) {
        return next().feed(a, b, c, d, e);
    }

    int back(int n) {
        return next().back(n);
    }

    int read() {
        return next().read();
    }

    int place() {
        return next().place();
    }

    int ground(int zone, int belt, int listeners) {
        return next().ground(zone, belt, listeners);
    }

    int mast(int site, int power) {
        return next().mast(site, power);
    }

    int programme(int land, int from, int until) {
        return next().programme(land, from, until);
    }

    boolean sheet(int season, int n) {
        return next().sheet(season, n);
    }

    boolean cell(int season, int i, int v) {
        return next().cell(season, i, v);
    }

    boolean clock(int d) {
        return next().clock(d);
    }

    int report(int site, int land, int band, int hour, int heard) {
        return next().report(site, land, band, hour, heard);
    }

    int notice(int band, int from, int until, int land, int day) {
        return next().notice(band, from, until, land, day);
    }

    int way(int s, int l, int what) {
        return next().way(s, l, what);
    }

    int sun(boolean site, int k, int day, int hour) {
        return next().sun(site, k, day, hour);
    }

    int correction(int site, int land, int band, int n) {
        return next().correction(site, land, band, n);
    }

    int strength(int m, int band, int land, int day, int hour, int n) {
        return next().strength(m, band, land, day, hour, n);
    }

    int yields(int m, int band, int land, int day, int hour, int n) {
        return next().yields(m, band, land, day, hour, n);
    }

    int rule(int m, int band, int land, int day, int hour, int f) {
        return next().rule(m, band, land, day, hour, f);
    }

    int schedule(int day, int n) {
        return next().schedule(day, n);
    }

    int slot(int hour, int p, int what) {
        return next().slot(hour, p, what);
    }

    int listeners(int hour) {
        return next().listeners(hour);
    }

    int count(int what) {
        return next().count(what);
    }

    /** Puts a text on the tape, which has room for it and for the filling behind it. */
    House type(String text) {
        byte[] bytes = text.getBytes(StandardCharsets.ISO_8859_1);
        for (int i = 0; i < bytes.length; i += 20) {
            int[] four = new int[5];
            for (int k = 0; k < 20; k++) {
                int b = i + k < bytes.length ? bytes[i + k] & 255 : 32;
                four[k / 4] = four[k / 4] << 8 | b;
            }
            feed(four[0], four[1], four[2], four[3], four[4]);
        }
        back((20 - bytes.length % 20) % 20);
        return this;
    }

    int readText(String text) {
        return type(text).read();
    }

    /** A SHEET of 270 cells, all with one number: 271 calls. */
    void flat(int season, int number) {
        sheet(season, 270);
        for (int i = 0; i < 270; i++) {
            cell(season, i, number);
        }
    }

    /** The cell of a BAND at SUN 2 on both sides and FAR 0. */
    static int noon(int band) {
        return (2 * 3 + 2) * 5 * 6 + band;
    }
}
