/** Promises 2, 3, 4 and 5, edge by edge: the tape, and what read() and place() make of it. */
public final class TapeEdgesTest {
    private static final int MIN = Integer.MIN_VALUE;
    private static final int MAX = Integer.MAX_VALUE;

    public static void main(String[] args) {
        highestFirst();
        allBytes();
        feedFull();
        feedBeyond();
        backOfNone();
        backTooMany();
        backBelowZero();
        lastOnesGo();
        readEmpties();
        readOfNothing();
        readIsTheWholeTape();
        placeWithout();
        placeStays();
        placeAtTheEnds();
        Due.end();
    }

    /** Twenty bytes: blanks, but for the one at i. */
    private static int[] spacesBut(int i, int b) {
        int[] four = new int[5];
        for (int k = 0; k < 20; k++) {
            four[k / 4] = four[k / 4] << 8 | (k == i ? b : 32);
        }
        return four;
    }

    /** "Twenty bytes, the highest of a first, come behind the tape: how many it has". */
    private static void highestFirst() {
        for (int i = 0; i < 20; i++) {
            for (int ahead = 0; ahead < 3; ahead++) {
                House x = new House();
                for (int k = 0; k < ahead; k++) {
                    Due.is("feed", x.feed(0x20202020, 0x20202020, 0x20202020, 0x20202020, 0x20202020), 20 * k + 20);
                }
                int[] w = spacesBut(i, '#');
                Due.is("feed", x.feed(w[0], w[1], w[2], w[3], w[4]), 20 * ahead + 20);
                Due.is("read", x.read(), 1);
                Due.is("place of byte " + i, x.place(), 20 * ahead + i);
            }
        }
    }

    /** A byte may have any number 0 .. 255, at each place of an int. */
    private static void allBytes() {
        for (int b = 0; b < 256; b++) {
            for (int i = 0; i < 4; i++) {
                House x = new House();
                int[] w = spacesBut(i, b);
                Due.is("feed", x.feed(w[0], w[1], w[2], w[3], w[4]), 20);
                boolean blank = b == 9 || b == 10 || b == 13 || b == 32;
                Due.is("read of byte " + b, x.read(), blank ? 0 : 1);
                Due.is("place of byte " + b, x.place(), blank ? -1 : i);
            }
        }
    }

    /** A tape of 20 * n bytes: blanks, then a RULE at its end. */
    private static House tape(int n) {
        House x = new House();
        return x.type(" ".repeat(20 * n - 9) + "we yield;");
    }

    /** "NONE, and nothing comes, if it would have more than 2,000": 2,000 are taken. */
    private static void feedFull() {
        House x = tape(99);
        Due.is("bytes", x.count(7), 1980);
        Due.is("the last twenty", x.feed(0x20202020, 0x77652079, 0x69656c64, 0x3b202020, 0x20202020), 2000);
        Due.is("bytes", x.count(7), 2000);
        Due.is("read", x.read(), 0);
        Due.is("the last twenty have come", x.count(5), 2);
        Due.is("then there is room again", x.feed(0, 0, 0, 0, 0), 20);
    }

    /** A furnished house whose tape, with 9 bytes, has got more of them: blanks. */
    private static House furnishedWith(int bytes) {
        House x = States.furnished();
        for (int k = x.count(7); k + 20 <= bytes; k += 20) {
            x.feed(0x20202020, 0x20202020, 0x20202020, 0x20202020, 0x20202020);
        }
        x.back(x.count(7) - (bytes - 20));
        Due.is("feed up to " + bytes, x.feed(0x20202020, 0x20202020, 0x20202020, 0x20202020, 0x20202020), bytes);
        return x;
    }

    /** "NONE, and nothing comes, if it would have more than 2,000": from 1,981 on. */
    private static void feedBeyond() {
        for (int bytes : new int[] {1981, 1999, 2000}) {
            Refused.none("feed behind " + bytes, () -> furnishedWith(bytes), x -> x.feed(0x23232323, 0, 0, 0, 0));
        }
        for (int bytes : new int[] {1981, 1985, 1990, 1999, 2000}) {
            House x = tape(100);
            Due.is("back", x.back(2000 - bytes), bytes);
            Due.is("feed behind " + bytes, x.feed(0x23232323, 0x23232323, 0x23232323, 0x23232323, 0x23232323), -1);
            Due.is("bytes", x.count(7), bytes);
            Due.is("feed once more behind " + bytes, x.feed(0, 0, 0, 0, 0), -1);
            Due.is("bytes", x.count(7), bytes);
            boolean whole = bytes == 2000;
            boolean blank = bytes <= 1991;
            Due.is("read of " + bytes, x.read(), whole || blank ? 0 : 1);
            Due.is("place in " + bytes, x.place(), whole || blank ? -1 : bytes);
            Due.is("RULES of " + bytes, x.count(5), whole ? 1 : 0);
        }
    }

    /** "The last n bytes of the tape go: how many it has": of an empty one, and none at all. */
    private static void backOfNone() {
        House x = new House();
        Due.is("back(0) of nothing", x.back(0), 0);
        Due.is("back(1) of nothing", x.back(1), -1);
        x.feed(0, 0, 0, 0, 0);
        Due.is("back(0)", x.back(0), 20);
        Due.is("bytes", x.count(7), 20);
    }

    /** "NONE, and nothing goes, if it has not so many". */
    private static void backTooMany() {
        for (int n : new int[] {10, 11, 20, 2000, 2001, MAX}) {
            Refused.none("back(" + n + ") of 9", x -> x.back(n));
        }
        House x = States.furnished();
        Due.is("back(9) of 9", x.back(9), 0);
        Due.is("bytes", x.count(7), 0);
        House full = tape(100);
        Due.is("back(2001) of 2000", full.back(2001), -1);
        Due.is("bytes", full.count(7), 2000);
        Due.is("back(1999) of 2000", full.back(1999), 1);
        Due.is("back(2) of 1", full.back(2), -1);
        Due.is("back(1) of 1", full.back(1), 0);
        House whole = tape(100);
        Due.is("back(2000) of 2000", whole.back(2000), 0);
    }

    /** "NONE, and nothing goes, if n is below 0". */
    private static void backBelowZero() {
        for (int n : new int[] {-1, -2, -9, -20, -2000, MIN}) {
            Refused.none("back(" + n + ")", x -> x.back(n));
        }
        House empty = new House();
        Due.is("back(-1) of nothing", empty.back(-1), -1);
        Due.is("bytes", empty.count(7), 0);
    }

    /** "The last n bytes of the tape go", and what is fed next comes behind those that are left. */
    private static void lastOnesGo() {
        House x = new House();
        x.feed(0x77652079, 0x69656c64, 0x23232323, 0x23232323, 0x23232323);
        Due.is("back(12)", x.back(12), 8);
        Due.is("feed", x.feed(0x3b776520, 0x7969656c, 0x643b2320, 0x20202020, 0x20202020), 28);
        Due.is("back(10)", x.back(10), 18);
        Due.is("read 'we yield;we yield;'", x.read(), 0);
        Due.is("RULES", x.count(5), 2);
    }

    /** "The tape, which is empty then, is read: 0, or the number of its FAULT". */
    private static void readEmpties() {
        String[] texts = {"we yield;", "we", "we yield;".repeat(21), "we yield until 0;"};
        int[] due = {0, 1, 2, 5};
        for (int k = 0; k < texts.length; k++) {
            House x = new House();
            Due.is("read", x.readText(texts[k]), due[k]);
            Due.is("no bytes behind FAULT " + due[k], x.count(7), 0);
            Due.is("nothing to go back", x.back(1), -1);
            Due.is("the next text starts at 0", x.readText("#"), 1);
            Due.is("the next text's place", x.place(), 0);
        }
    }

    /** An empty tape is a text without RULES, and is in place of the one ahead. */
    private static void readOfNothing() {
        House x = new House();
        Due.is("read", x.read(), 0);
        Due.is("place", x.place(), -1);
        x.readText("we yield; they yield;");
        Due.is("RULES", x.count(5), 2);
        Due.is("read again", x.read(), 0);
        Due.is("no RULES", x.count(5), 0);
        x.readText("we yield; they yield;");
        Due.is("read of blanks", x.readText("\t\n\r "), 0);
        Due.is("no RULES", x.count(5), 0);
    }

    /** "TREATIES are a text of at most 2,000 bytes": all of them count, the first and the last. */
    private static void readIsTheWholeTape() {
        House x = tape(100);
        Due.is("read", x.read(), 0);
        Due.is("its last byte ends a RULE", x.count(5), 1);
        House y = tape(100);
        y.back(1);
        Due.is("without the last byte", y.read(), 1);
        Due.is("its end", y.place(), 1999);
        House z = new House();
        z.type("we yield;" + " ".repeat(1991));
        Due.is("read", z.read(), 0);
        Due.is("the first bytes are a RULE", z.count(5), 1);
        House w = new House();
        w.type("we yield;" + " ".repeat(1990) + "#");
        Due.is("a last byte that is no TOKEN", w.read(), 1);
        Due.is("its place", w.place(), 1999);
    }

    /** "The byte of the latest read()'s FAULT; NONE without". */
    private static void placeWithout() {
        House x = new House();
        Due.is("without a read()", x.place(), -1);
        x.readText("we yield; #");
        Due.is("of a FAULT", x.place(), 10);
        x.readText("we yield;");
        Due.is("of none", x.place(), -1);
        x.readText("we yield until 0;");
        Due.is("of a FAULT", x.place(), 15);
        x.read();
        Due.is("of an empty tape", x.place(), -1);
    }

    /** "the latest read()'s": what comes on the tape and goes from it later does not count. */
    private static void placeStays() {
        House x = new House();
        x.readText("we yield; #");
        x.feed(0, 0, 0, 0, 0);
        Due.is("behind a feed", x.place(), 10);
        x.back(3);
        Due.is("behind a back", x.place(), 10);
        x.back(17);
        Due.is("behind a back of all", x.place(), 10);
        x.back(1);
        Due.is("behind a back that is refused", x.place(), 10);
        x.feed(0, 0, 0, 0, 0);
        Due.is("asked twice", x.place(), 10);
        x.read();
        Due.is("behind the next read()", x.place(), 0);
        x.readText("we #");
        Due.is("of two FAULTS one behind the other", x.place(), 3);
    }

    /** "its place (a byte; the text's end: its length)". */
    private static void placeAtTheEnds() {
        House x = new House();
        x.readText("#");
        Due.is("the first byte", x.place(), 0);
        x.readText("we");
        Due.is("the end", x.place(), 2);
        x.readText("we \t\r\n ");
        Due.is("the end behind blanks", x.place(), 7);
        x.readText(" ".repeat(1998) + "we");
        Due.is("the end of 2,000", x.place(), 2000);
        x.readText("we" + " ".repeat(1998));
        Due.is("the end of 2,000", x.place(), 2000);
        House y = new House();
        y.readText(" ".repeat(1999) + "#");
        Due.is("the last byte", y.place(), 1999);
    }
}
