import java.lang.management.ManagementFactory;

/** The dearest calls of a full house: a whole run of them stays far inside the room that all runs share, and ends soon. */
public final class RoomTest {
    /** The room has 7.3 million fields and elements; an int has four bytes. */
    private static final long ROOM = 7_300_000L * 4;

    public static void main(String[] args) {
        dearestRun();
        long before = made();
        long start = System.nanoTime();
        dearestRun();
        long millis = (System.nanoTime() - start) / 1000000;
        long made = made() - before;
        System.out.println("a run: " + made + " bytes, " + millis + " ms");
        Due.is("a run makes little: " + made + " bytes", made < ROOM, true);
        Due.is("it ends soon: " + millis + " ms", millis < 60000, true);
        Due.end();
    }

    private static long made() {
        com.sun.management.ThreadMXBean threads = (com.sun.management.ThreadMXBean) ManagementFactory.getThreadMXBean();
        return threads.getThreadAllocatedBytes(Thread.currentThread().getId());
    }

    private static void dearestRun() {
        House x = fullHouse();
        Due.is("facts", x.count(4), 300);
        Due.is("rules", x.count(5), 20);
        while (x.callsLeft() >= 6) {
            Due.is("schedule", x.schedule(3599, 300) > 0, true);
            x.correction(3, 7, 5, 300);
            x.strength(5, 5, 7, 3599, 23, 300);
            x.yields(5, 5, 7, 3599, 23, 300);
            x.rule(5, 5, 7, 3599, 23, 299);
            x.sheet(0, 270);
        }
    }

    /** All that there is room for, all LANDS near one another, and by the last RULE, behind all others, they yield. */
    private static House fullHouse() {
        House x = new House();
        for (int k = 0; k < 8; k++) {
            x.ground(k % 4, 3, 1000 + k);
        }
        for (int k = 0; k < 4; k++) {
            x.ground(k, 3, 0);
        }
        for (int m = 0; m < 6; m++) {
            x.mast(m % 4, 9 - m);
        }
        for (int p = 0; p < 10; p++) {
            x.programme(p % 8, 0, 24);
        }
        x.clock(3599);
        x.sheet(3, 270);
        for (int suns = 0; suns < 9; suns++) {
            for (int band = 0; band < 6; band++) {
                x.cell(3, suns * 30 + band, 50 + band);
            }
        }
        StringBuilder text = new StringBuilder();
        for (int r = 0; r < 19; r++) {
            text.append("we yield if band*hour+day*land-aim*power<0-99;");
        }
        Due.is("read", x.readText(text + "they yield;"), 0);
        for (int f = 0; f < 300; f++) {
            x.notice(f % 6, 0, 24, f % 8, f);
        }
        return x;
    }
}
