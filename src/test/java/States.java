/** Houses that tests start from. */
final class States {
    private States() {
    }

    /** Some of all there is, so that hardly a change would leave every answer as it was: some 40 calls. */
    static House furnished() {
        House x = new House();
        x.ground(0, 3, 100);
        x.ground(5, 3, 60);
        x.ground(12, 1, 30);
        x.ground(0, 3, 0);
        x.ground(2, 0, 0);
        x.mast(0, 4);
        x.mast(1, 9);
        x.programme(0, 10, 14);
        x.programme(1, 11, 13);
        x.sheet(0, 270);
        x.sheet(1, 3);
        x.sheet(2, 0);
        for (int band = 0; band < 6; band++) {
            x.cell(0, House.noon(band), 3 * band + 1);
            x.cell(0, House.noon(band) + 6, 20 - band);
        }
        x.cell(1, 1, 7);
        x.clock(5);
        x.report(0, 0, 1, 12, 15);
        x.notice(2, 11, 13, 0, 3);
        x.report(1, 1, 4, 12, -3);
        x.notice(5, 0, 24, 0, 0);
        x.readText("they yield if band == 2 and hour == 12; we yield from 5;");
        x.readText("we yield; no");
        x.schedule(5, 3);
        x.type("we yield;");
        return x;
    }

    /** SITE 0 with MAST 0 (POWER 4) and LAND 0 (100 LISTENERS) at one place of BELT 3, SUN 2 at noon: 3 calls. */
    static House small() {
        House x = new House();
        x.ground(0, 3, 100);
        x.ground(0, 3, 0);
        x.mast(0, 4);
        return x;
    }
}
