/** Promises 2 and 3, and what read() does to the tape. */
public final class TapeTest {
    public static void main(String[] args) {
        House x = new House();
        Due.is("back(0) of nothing", x.back(0), 0);
        Due.is("back(1) of nothing", x.back(1), -1);
        for (int i = 1; i <= 100; i++) {
            Due.is("feed", x.feed(0, 0, 0, 0, 0), 20 * i);
        }
        Due.is("feed beyond", x.feed(0, 0, 0, 0, 0), -1);
        Due.is("bytes", x.count(7), 2000);
        Due.is("back(-1)", x.back(-1), -1);
        Due.is("back(min)", x.back(Integer.MIN_VALUE), -1);
        Due.is("back(2001)", x.back(2001), -1);
        Due.is("back(19)", x.back(19), 1981);
        Due.is("feed beyond by one", x.feed(0, 0, 0, 0, 0), -1);
        Due.is("bytes", x.count(7), 1981);
        Due.is("back(1)", x.back(1), 1980);
        Due.is("feed to the brim", x.feed(0, 0, 0, 0, 0), 2000);
        Due.is("back(2000)", x.back(2000), 0);
        order();
        readEmpties();
        Due.end();
    }

    /** "we y" "ield" "; we" " yie" "ld;#": a byte that is no TOKEN tells where each one came. */
    private static void order() {
        House x = new House();
        x.feed(0x77652079, 0x69656c64, 0x3b207765, 0x20796965, 0x6c643b23);
        Due.is("read", x.read(), 1);
        Due.is("place", x.place(), 19);
        x.feed(0x77652079, 0x69656c64, 0x3b207765, 0x20796965, 0x6c643b23);
        x.back(1);
        Due.is("read", x.read(), 0);
        Due.is("place", x.place(), -1);
        Due.is("rules", x.count(5), 2);
        x.feed(0x80000000, 0, 0, 0, 0);
        Due.is("a byte above 127", x.read(), 1);
        Due.is("place", x.place(), 0);
    }

    private static void readEmpties() {
        House x = new House();
        x.type("we yield; they yield;");
        Due.is("bytes", x.count(7), 21);
        Due.is("read", x.read(), 0);
        Due.is("bytes", x.count(7), 0);
        Due.is("rules", x.count(5), 2);
        Due.is("a fault", x.readText("we yield; no"), 1);
        Due.is("bytes", x.count(7), 0);
        Due.is("rules are kept", x.count(5), 2);
        Due.is("place", x.place(), 10);
        Due.is("nothing", x.read(), 0);
        Due.is("no rules", x.count(5), 0);
        Due.is("place", x.place(), -1);
    }
}
