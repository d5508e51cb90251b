import java.lang.management.ManagementFactory;

/** The dearest calls of a full house: none makes objects, and each ends soon. */
public final class RoomTest {
    public static void main(String[] args) {
        WaveHouse x = fullHouse();
        Due.is("facts", x.count(4), 300);
        Due.is("rules", x.count(5), 20);
        round(x);
        long before = made();
        long start = System.nanoTime();
        for (int k = 0; k < 10; k++) {
            round(x);
        }
        long millis = (System.nanoTime() - start) / 1000000;
        long made = made() - before;
        Due.is("calls make next to nothing: " + made + " bytes", made < 10000, true);
        System.out.println("ten rounds: " + made + " bytes, " + millis + " ms");
        Due.is("they end soon: " + millis + " ms", millis < 60000, true);
        Due.end();
    }

    private static long made() {
        com.sun.management.ThreadMXBean threads = (com.sun.management.ThreadMXBean) ManagementFactory.getThreadMXBean();
        return threads.getThreadAllocatedBytes(Thread.currentThread().getId());
    }

    private static void round(WaveHouse x) {
        x.schedule(3599, 300);
        x.slot(12, 9, 3);
        x.listeners(12);
        x.correction(3, 7, 5, 300);
        x.strength(5, 5, 7, 3599, 23, 300);
        x.yields(5, 5, 7, 3599, 23, 300);
        x.rule(5, 5, 7, 3599, 23, 299);
        x.way(3, 7, 2);
        x.sun(true, 3, 3599, 23);
        x.sheet(0, 270);
        x.cell(0, 269, 3);
        x.feed(0x77652079, 0x69656c64, 0x20756e74, 0x696c2030, 0x3b202020);
        x.read();
        x.place();
        x.count(7);
        x.report(0, 0, 0, 0, 0);
        x.notice(0, 0, 1, 0, 0);
        x.clock(3599);
    }

    /** All that there is room for, all LANDS near one another, and by the last RULE, behind all others, they yield. */
    private static WaveHouse fullHouse() {
        WaveHouse x = new WaveHouse();
        for (int k = 0; k < 8; k++) {
            x.ground(k % 4, 3, 1000 + k);
        }
        for (int k = 0; k < 4; k++) {
            x.ground(6 * k, k, 0);
        }
        for (int m = 0; m < 6; m++) {
            x.mast(m % 4, 9 - m);
        }
        for (int p = 0; p < 10; p++) {
            x.programme(p % 8, 0, 24);
        }
        x.clock(3599);
        Houses.flat(x, 3, 50);
        StringBuilder text = new StringBuilder();
        for (int r = 0; r < 19; r++) {
            text.append("we yield if band*hour+day*land-aim*power<0-99;");
        }
        Due.is("read", Houses.read(x, text + "they yield;"), 0);
        for (int f = 0; f < 300; f++) {
            x.notice(f % 6, 0, 24, f % 8, f);
        }
        return x;
    }
}
