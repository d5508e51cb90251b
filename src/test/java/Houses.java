import java.nio.charset.StandardCharsets;

/** Ways to bring a WaveHouse into a state. */
final class Houses {
    private Houses() {
    }

    /** Puts a text on the tape, which has room for it and for the filling behind it. */
    static void type(WaveHouse x, String text) {
        byte[] bytes = text.getBytes(StandardCharsets.ISO_8859_1);
        for (int i = 0; i < bytes.length; i += 20) {
            int[] four = new int[5];
            for (int k = 0; k < 20; k++) {
                int b = i + k < bytes.length ? bytes[i + k] & 255 : 32;
                four[k / 4] = four[k / 4] << 8 | b;
            }
            x.feed(four[0], four[1], four[2], four[3], four[4]);
        }
        x.back((20 - bytes.length % 20) % 20);
    }

    static int read(WaveHouse x, String text) {
        type(x, text);
        return x.read();
    }

    /** A SHEET of 270 cells, all with one number. */
    static void flat(WaveHouse x, int season, int number) {
        x.sheet(season, 270);
        for (int i = 0; i < 270; i++) {
            x.cell(season, i, number);
        }
    }

    /** The cells of the BAND at SUN 2 on both sides and FAR 0. */
    static int noon(int band) {
        return (2 * 3 + 2) * 5 * 6 + band;
    }
}
