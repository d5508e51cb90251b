/** Part IV of the Terms and promises 20, 21 and 22, edge by edge: THE SCHEDULE. */
public final class ScheduleEdgesTest {
    private static final int MIN = Integer.MIN_VALUE;
    private static final int MAX = Integer.MAX_VALUE;

    public static void main(String[] args) {
        schedulesDay();
        schedulesKnown();
        refusedLeavesTheOneAtHand();
        nothingToDo();
        atHandAsItWasMade();
        programmesHours();
        heardAtTen();
        notKnown();
        greatestStrength();
        leastBand();
        bandsThatYield();
        turning();
        hourZero();
        oneMastEach();
        oneProgrammeEach();
        mostListeners();
        mostStrength();
        leastMasts();
        noneBehindAll();
        onlyTheHourCounts();
        eachHourAnew();
        onlyWhatFits();
        full();
        slotsHour();
        slotsProgramme();
        slotsWhat();
        slotWithoutMast();
        listenersHour();
        Due.end();
    }

    /** LAND 0 (100) and SITE 0 at one place of BELT 3, MASTS of these POWERS, the SHEET of SEASON 0 with 0s. */
    private static House house(int... powers) {
        House x = new House();
        x.ground(0, 3, 100);
        x.ground(0, 3, 0);
        for (int power : powers) {
            x.mast(0, power);
        }
        x.sheet(0, 270);
        return x;
    }

    /** A REPORT by which BAND 0 of a LAND is 20 better at every HOUR. */
    private static House heard(House x, int land) {
        x.report(0, land, 0, 12, 20);
        return x;
    }

    private static void slots(String when, House x, int hour, int p, int... due) {
        for (int what = 0; what < due.length; what++) {
            Due.is(when + " slot(" + hour + ", " + p + ", " + what + ")", x.slot(hour, p, what), due[what]);
        }
    }

    /** A number for all BANDS at noon. */
    private static void everyBand(House x, int number) {
        for (int band = 0; band < 6; band++) {
            x.cell(0, House.noon(band), number);
        }
    }

    /** "NONE: no such DAY". */
    private static void schedulesDay() {
        for (int day : new int[] {-1, 3600, 3601, MIN, MAX}) {
            Refused.none("schedule(" + day + ", 0)", x -> x.schedule(day, 0));
        }
        House x = heard(house(5), 0);
        x.sheet(3, 270);
        x.programme(0, 0, 24);
        Due.is("the first DAY", x.schedule(0, 1), 2400);
        Due.is("the last of SEASON 0", x.schedule(89, 1), 2400);
        Due.is("the first of SEASON 1", x.schedule(90, 1), 0);
        Due.is("the last DAY", x.schedule(3599, 1), 2400);
    }

    /** "NONE: no such n"; "as KNOWN by n". */
    private static void schedulesKnown() {
        for (int n : new int[] {-1, 5, 300, 301, MIN, MAX}) {
            Refused.none("schedule(0, " + n + ")", x -> x.schedule(0, n));
        }
        House x = house(5);
        x.programme(0, 12, 13);
        Due.is("0 of none", x.schedule(0, 0), 0);
        Due.is("1 of none", x.schedule(0, 1), -1);
        x.report(0, 0, 0, 12, 5);
        x.notice(0, 12, 13, 0, 0);
        int[] due = {0, 100, 0};
        for (int n = 0; n < 3; n++) {
            Due.is("as KNOWN by " + n, x.schedule(0, n), due[n]);
        }
        Due.is("as KNOWN by 3", x.schedule(0, 3), -1);
    }

    /** "it is the one at hand": one that is refused is not. */
    private static void refusedLeavesTheOneAtHand() {
        House x = heard(house(5), 0);
        x.programme(0, 12, 14);
        Due.is("a SCHEDULE", x.schedule(0, 1), 200);
        Due.is("no such DAY", x.schedule(3600, 1), -1);
        slots("behind it", x, 12, 0, 0, 0, 0, 25);
        Due.is("listeners(12) behind it", x.listeners(12), 100);
        Due.is("no such n", x.schedule(0, 2), -1);
        slots("behind it", x, 13, 0, 0, 0, 0, 25);
        Due.is("one with nothing", x.schedule(90, 0), 0);
        slots("then that is at hand", x, 12, 0, -1, -1, -1, 0);
        Due.is("listeners(12) then", x.listeners(12), 0);
    }

    /** A SCHEDULE without PROGRAMMES, without MASTS, without SHEETS. */
    private static void nothingToDo() {
        House x = new House();
        Due.is("nothing is there", x.schedule(0, 0), 0);
        for (int hour = 0; hour < 24; hour++) {
            Due.is("listeners(" + hour + ")", x.listeners(hour), 0);
        }
        slots("there is no PROGRAMME", x, 0, 0, -1, -1, -1, -1);
        House y = house();
        y.programme(0, 0, 24);
        Due.is("without MASTS", y.schedule(0, 0), 0);
        slots("without MASTS", y, 0, 0, -1, -1, -1, 0);
        House z = States.small();
        z.programme(0, 0, 24);
        Due.is("without SHEETS", z.schedule(0, 0), 0);
        slots("without SHEETS", z, 12, 0, -1, -1, -1, 0);
        House w = heard(house(5), 0);
        Due.is("without PROGRAMMES", w.schedule(0, 1), 0);
        Due.is("without PROGRAMMES", w.listeners(12), 0);
    }

    /** "THE SCHEDULE .. it is the one at hand": as it was made, whatever is told later. */
    private static void atHandAsItWasMade() {
        House x = heard(house(5), 0);
        x.programme(0, 12, 13);
        x.schedule(0, 1);
        x.mast(0, 9);
        x.cell(0, House.noon(0), 50);
        x.sheet(0, -1);
        x.notice(0, 0, 24, 0, 0);
        x.readText("they yield;");
        x.clock(100);
        x.report(0, 0, 0, 12, -99);
        x.programme(0, 12, 13);
        slots("as it was", x, 12, 0, 0, 0, 0, 25);
        slots("no PROGRAMME of it", x, 12, 1, -1, -1, -1, -1);
        Due.is("as it was", x.listeners(12), 100);
    }

    /** "from an HOUR on up to (not with) another one". */
    private static void programmesHours() {
        int[][] spans = {{0, 1}, {0, 24}, {5, 6}, {5, 8}, {23, 24}};
        for (int[] s : spans) {
            House x = heard(house(5), 0);
            x.programme(0, s[0], s[1]);
            Due.is("from " + s[0] + " until " + s[1], x.schedule(0, 1), 100 * (s[1] - s[0]));
            for (int hour = 0; hour < 24; hour++) {
                boolean on = hour >= s[0] && hour < s[1];
                Due.is("listeners(" + hour + ")", x.listeners(hour), on ? 100 : 0);
                Due.is("its MAST at " + hour, x.slot(hour, 0, 0), on ? 0 : -1);
                Due.is("its STRENGTH at " + hour, x.slot(hour, 0, 3), on ? 25 : 0);
            }
        }
    }

    /** "it is HEARD at 10 and more". */
    private static void heardAtTen() {
        for (int strength : new int[] {-50, 0, 9, 10, 11, 108}) {
            House x = house(9);
            everyBand(x, -99);
            x.cell(0, House.noon(3), strength - 9);
            x.programme(0, 12, 13);
            boolean heard = strength >= 10;
            Due.is("STRENGTH " + strength, x.strength(0, 3, 0, 0, 12, 0), strength);
            Due.is("listeners at STRENGTH " + strength, x.schedule(0, 0), heard ? 100 : 0);
            slots("STRENGTH " + strength, x, 12, 0, heard ? new int[] {0, 3, 0, strength} : new int[] {-1, -1, -1, 0});
        }
    }

    /** "whose STRENGTH is known": a SHEET that ends between two BANDS. */
    private static void notKnown() {
        House x = house(5);
        x.programme(0, 12, 13);
        x.sheet(0, House.noon(3));
        x.cell(0, House.noon(2), 5);
        Due.is("BAND 2 is the last that is known", x.schedule(0, 0), 100);
        slots("BAND 2", x, 12, 0, 0, 2, 0, 10);
        x.sheet(0, House.noon(0));
        Due.is("none is known", x.schedule(0, 0), 0);
        slots("none", x, 12, 0, -1, -1, -1, 0);
    }

    /** "that with the greatest STRENGTH": by one, as the first BAND and as the last. */
    private static void greatestStrength() {
        for (int best = 0; best < 6; best++) {
            House x = house(5);
            everyBand(x, 20);
            x.cell(0, House.noon(best), 21);
            x.programme(0, 12, 13);
            x.schedule(0, 0);
            slots("BAND " + best, x, 12, 0, 0, best, 0, 26);
        }
    }

    /** "of equal ones the least". */
    private static void leastBand() {
        for (int first = 0; first < 5; first++) {
            for (int second = first + 1; second < 6; second++) {
                House x = house(5);
                x.cell(0, House.noon(first), 20);
                x.cell(0, House.noon(second), 20);
                x.programme(0, 12, 13);
                x.schedule(0, 0);
                slots("BANDS " + first + " and " + second, x, 12, 0, 0, first, 0, 25);
            }
        }
    }

    /** "of those by which we need not yield to any NOTICE": the next best, down to none. */
    private static void bandsThatYield() {
        House x = house(5);
        for (int band = 0; band < 6; band++) {
            x.cell(0, House.noon(band), 10 + band);
        }
        x.programme(0, 12, 13);
        for (int f = 0; f < 6; f++) {
            x.notice(5 - f, 12, 13, 0, 0);
        }
        for (int n = 0; n < 6; n++) {
            Due.is("as KNOWN by " + n, x.schedule(0, n), 100);
            slots("as KNOWN by " + n, x, 12, 0, 0, 5 - n, 0, 20 - n);
        }
        Due.is("all yield", x.schedule(0, 6), 0);
        x.readText("we yield if notice == 0; they yield;");
        Due.is("the best alone yields", x.schedule(0, 6), 100);
        slots("the best alone yields", x, 12, 0, 0, 4, 0, 19);
        x.notice(4, 0, 24, 0, 0);
        x.readText("they yield if notice != 6;");
        x.schedule(0, 7);
        slots("we yield on BAND 4 alone", x, 12, 0, 0, 5, 0, 20);
        x.readText("they yield if notice == 1;");
        Due.is("of BAND 4's two NOTICES they yield by one alone", x.schedule(0, 7), 0);
    }

    /** LAND 1 (60) east of the SITE, LAND 2 (30) north of it: AIMS 2 and 0, as LAND 0's; all are HEARD. */
    private static House threeAims(int... powers) {
        House x = house(powers);
        x.ground(1, 3, 60);
        x.ground(0, 2, 30);
        for (int land = 0; land < 3; land++) {
            heard(x, land);
        }
        return x;
    }

    /** "the MAST did nothing in the HOUR ahead, or had this AIM then". */
    private static void turning() {
        House x = threeAims(5);
        x.programme(0, 3, 4);
        x.programme(1, 4, 6);
        Due.is("it turns for an HOUR", x.schedule(0, 3), 160);
        Due.is("it is at LAND 0", x.slot(3, 0, 2), 0);
        slots("it turns", x, 4, 1, -1, -1, -1, 0);
        slots("it has turned", x, 5, 1, 0, 0, 2, 25);
        House y = threeAims(5);
        y.programme(0, 3, 4);
        y.programme(2, 4, 5);
        Due.is("the same AIM needs no turning", y.schedule(0, 3), 130);
        slots("at once", y, 4, 1, 0, 0, 0, 25);
        House z = threeAims(5);
        z.programme(0, 3, 4);
        z.programme(1, 5, 6);
        Due.is("an HOUR between is enough", z.schedule(0, 3), 160);
        House w = threeAims(5, 5);
        w.programme(0, 3, 4);
        w.programme(1, 4, 5);
        Due.is("another MAST is free", w.schedule(0, 3), 160);
        slots("the first", w, 3, 0, 0, 0, 0, 25);
        slots("the other", w, 4, 1, 1, 0, 2, 25);
        turningAtTheEnds();
    }

    /** From HOUR 0 to 1, from 22 to 23, and away from AIM 0 as from any other. */
    private static void turningAtTheEnds() {
        for (int first = 0; first < 2; first++) {
            for (int hour : new int[] {0, 11, 22}) {
                House x = threeAims(5);
                x.programme(first, hour, hour + 1);
                x.programme(1 - first, hour + 1, hour + 2);
                Due.is("from " + hour + " to the next", x.schedule(0, 3), first == 0 ? 100 : 60);
                slots("it is there", x, hour, 0, 0, 0, first * 2, 25);
                slots("it turns", x, hour + 1, 1, -1, -1, -1, 0);
            }
        }
    }

    /** "(In HOUR 0 no MAST did anything ahead.)": not by the HOUR 23 of a SCHEDULE made ahead, either. */
    private static void hourZero() {
        House x = threeAims(5);
        x.programme(1, 0, 1);
        x.programme(0, 23, 24);
        for (int k = 0; k < 3; k++) {
            Due.is("SCHEDULE " + k, x.schedule(k, 3), 160);
            slots("HOUR 0", x, 0, 0, 0, 0, 2, 25);
            slots("HOUR 23", x, 23, 1, 0, 0, 0, 25);
        }
    }

    /** "Each PROGRAMME gets one MAST that FITS, or none": never two. */
    private static void oneMastEach() {
        House x = heard(house(5, 5, 5, 5, 5, 5), 0);
        x.programme(0, 12, 13);
        Due.is("one PROGRAMME, six MASTS", x.schedule(0, 1), 100);
        slots("the least", x, 12, 0, 0, 0, 0, 25);
    }

    /** "each MAST at most one PROGRAMME". */
    private static void oneProgrammeEach() {
        House x = heard(house(5), 0);
        for (int p = 0; p < 10; p++) {
            x.programme(0, 12, 13);
        }
        Due.is("ten PROGRAMMES, one MAST", x.schedule(0, 1), 100);
        for (int p = 0; p < 10; p++) {
            slots("one MAST", x, 12, p, p == 0 ? new int[] {0, 0, 0, 25} : new int[] {-1, -1, -1, 0});
        }
    }

    /** "so that LISTENERS of LANDS, PROGRAMME by PROGRAMME, are the most": by one, ahead of all STRENGTHS. */
    private static void mostListeners() {
        House x = house(5);
        x.ground(0, 3, 101);
        x.report(0, 0, 0, 12, 99);
        x.report(0, 1, 0, 12, 5);
        x.programme(0, 12, 13);
        x.programme(1, 12, 13);
        Due.is("101 ahead of 100", x.schedule(0, 2), 101);
        slots("PROGRAMME 0", x, 12, 0, -1, -1, -1, 0);
        slots("PROGRAMME 1", x, 12, 1, 0, 0, 0, 10);
        House y = heard(house(5, 5), 0);
        y.programme(0, 12, 13);
        y.programme(0, 12, 13);
        Due.is("a LAND counts with each of its PROGRAMMES", y.schedule(0, 1), 200);
        twoForOne();
    }

    /** MAST 1 alone can reach LAND 1: then PROGRAMME 0 leaves it to PROGRAMME 1. */
    private static void twoForOne() {
        House x = house(1, 9);
        x.ground(0, 3, 1);
        x.report(0, 0, 0, 12, 90);
        x.report(0, 1, 0, 12, 1);
        x.programme(0, 12, 13);
        x.programme(1, 12, 13);
        Due.is("both", x.schedule(0, 2), 101);
        slots("PROGRAMME 0", x, 12, 0, 0, 0, 0, 91);
        slots("PROGRAMME 1", x, 12, 1, 1, 0, 0, 10);
    }

    /** "of these the STRENGTHS together": by one, ahead of the order of MASTS. */
    private static void mostStrength() {
        House x = heard(house(5, 6), 0);
        x.programme(0, 12, 13);
        x.schedule(0, 1);
        slots("the stronger MAST", x, 12, 0, 1, 0, 0, 26);
        House y = heard(house(5), 0);
        y.ground(0, 3, 100);
        y.report(0, 1, 0, 12, 21);
        y.programme(0, 12, 13);
        y.programme(1, 12, 13);
        Due.is("one of two with as many LISTENERS", y.schedule(0, 2), 100);
        slots("the weaker PROGRAMME", y, 12, 0, -1, -1, -1, 0);
        slots("the stronger PROGRAMME", y, 12, 1, 0, 0, 0, 26);
        twoSites();
    }

    /** Two SITES: what each PROGRAMME has by itself is not the most together. */
    private static void twoSites() {
        House x = new House();
        x.ground(0, 3, 100);
        x.ground(0, 3, 100);
        x.ground(0, 3, 0);
        x.ground(0, 3, 0);
        x.mast(0, 1);
        x.mast(1, 1);
        x.sheet(0, 270);
        int[][] heard = {{30, 28}, {29, 20}};
        for (int land = 0; land < 2; land++) {
            for (int site = 0; site < 2; site++) {
                x.report(site, land, 0, 12, heard[land][site]);
            }
        }
        x.programme(0, 12, 13);
        x.programme(1, 12, 13);
        Due.is("both", x.schedule(0, 4), 200);
        slots("28 + 29 is more than 30 + 20", x, 12, 0, 1, 0, 0, 29);
        slots("28 + 29 is more than 30 + 20", x, 12, 1, 0, 0, 0, 30);
    }

    /** "of these that in which PROGRAMME 0 has the least MAST, then PROGRAMME 1, and so on". */
    private static void leastMasts() {
        House x = heard(house(5, 5, 5, 5, 5, 5), 0);
        for (int p = 0; p < 6; p++) {
            x.programme(0, 12, 13);
        }
        x.schedule(0, 1);
        for (int p = 0; p < 6; p++) {
            slots("in their order", x, 12, p, p, 0, 0, 25);
        }
        House y = heard(house(5, 5), 0);
        y.programme(0, 12, 13);
        y.schedule(0, 1);
        slots("the least of two", y, 12, 0, 0, 0, 0, 25);
        House z = heard(house(5, 6, 6, 5), 0);
        z.programme(0, 12, 13);
        z.programme(0, 12, 13);
        z.programme(0, 12, 13);
        z.schedule(0, 1);
        slots("5 and two 6s: the least is 0", z, 12, 0, 0, 0, 0, 25);
        slots("then 1", z, 12, 1, 1, 0, 0, 26);
        slots("then 2", z, 12, 2, 2, 0, 0, 26);
    }

    /** "(none behind all)": an earlier PROGRAMME has a MAST ahead of a later one. */
    private static void noneBehindAll() {
        House x = heard(house(5, 5), 0);
        for (int p = 0; p < 3; p++) {
            x.programme(0, 12, 13);
        }
        Due.is("two of three", x.schedule(0, 1), 200);
        slots("PROGRAMME 0", x, 12, 0, 0, 0, 0, 25);
        slots("PROGRAMME 1", x, 12, 1, 1, 0, 0, 25);
        slots("PROGRAMME 2", x, 12, 2, -1, -1, -1, 0);
        House y = heard(house(5, 5, 5, 5, 5, 5), 0);
        for (int p = 0; p < 10; p++) {
            y.programme(0, 12, 13);
        }
        Due.is("six of ten", y.schedule(0, 1), 600);
        for (int p = 0; p < 10; p++) {
            Due.is("MAST of PROGRAMME " + p, y.slot(12, p, 0), p < 6 ? p : -1);
        }
    }

    /** "HOUR by HOUR, from 0": an HOUR is not weighed against later ones. */
    private static void onlyTheHourCounts() {
        House x = threeAims(5);
        x.programme(2, 3, 4);
        x.programme(1, 4, 5);
        Due.is("30 now, 60 lost then", x.schedule(0, 3), 30);
        slots("HOUR 3", x, 3, 0, 0, 0, 0, 25);
        slots("HOUR 4", x, 4, 1, -1, -1, -1, 0);
    }

    /** "HOUR by HOUR": what one HOUR has does not stay for the next, but for the AIM. */
    private static void eachHourAnew() {
        House x = house(9, 5);
        x.ground(0, 3, 60);
        x.ground(0, 3, 30);
        for (int land = 0; land < 3; land++) {
            heard(x, land);
        }
        x.programme(2, 10, 13);
        x.programme(1, 11, 14);
        x.programme(0, 12, 13);
        x.notice(0, 11, 12, 0, 0);
        x.readText("they yield if power == 5;");
        Due.is("the whole DAY", x.schedule(0, 4), 30 + 60 + 160 + 60);
        int[][] masts = {{-1, -1, -1}, {0, -1, -1}, {-1, 1, -1}, {-1, 0, 1}, {-1, 0, -1}, {-1, -1, -1}};
        for (int k = 0; k < masts.length; k++) {
            for (int p = 0; p < 3; p++) {
                int m = masts[k][p];
                int[] due = m == -1 ? new int[] {-1, -1, -1, 0} : new int[] {m, 0, 0, m == 0 ? 29 : 25};
                slots("each HOUR", x, 9 + k, p, due);
            }
        }
        manyHours();
    }

    /** The same two PROGRAMMES at every HOUR: both have a MAST, though one is worth more. */
    private static void manyHours() {
        House x = house(5, 6);
        x.ground(0, 3, 60);
        heard(x, 0);
        heard(x, 1);
        x.programme(1, 0, 24);
        x.programme(0, 0, 24);
        Due.is("both, all the DAY", x.schedule(0, 2), 24 * 160);
        for (int hour = 0; hour < 24; hour++) {
            slots("the first", x, hour, 0, 0, 0, 0, 25);
            slots("the second", x, hour, 1, 1, 0, 0, 26);
        }
        House y = heard(house(5, 9), 0);
        y.programme(0, 10, 12);
        y.programme(0, 10, 11);
        Due.is("two, then one", y.schedule(0, 1), 300);
        slots("two", y, 10, 0, 0, 0, 0, 25);
        slots("two", y, 10, 1, 1, 0, 0, 29);
        slots("one", y, 11, 0, 1, 0, 0, 29);
    }

    /** "one MAST that FITS, or none": none, where the one that FITS is with another PROGRAMME. */
    private static void onlyWhatFits() {
        House x = house(1, 9);
        x.ground(0, 3, 60);
        x.report(0, 0, 0, 12, 1);
        x.report(0, 1, 0, 12, 1);
        x.programme(1, 12, 13);
        x.programme(0, 12, 13);
        Due.is("one MAST FITS both", x.schedule(0, 2), 100);
        slots("60 LISTENERS", x, 12, 0, -1, -1, -1, 0);
        slots("100 LISTENERS", x, 12, 1, 1, 0, 0, 10);
        eachItsOwn();
    }

    /** Each MAST of its own POWER, each LAND HEARD from its own POWER on: LAND k by MASTS k .. 5 alone. */
    private static void eachItsOwn() {
        House x = new House();
        x.ground(0, 3, 0);
        x.sheet(0, 270);
        for (int k = 0; k < 6; k++) {
            x.mast(0, k + 1);
            x.ground(0, 3, 100 + k);
            x.report(0, k, 0, 12, 9 - k);
        }
        for (int p = 0; p < 6; p++) {
            x.programme(5 - p, 12, 13);
        }
        Due.is("each has its own", x.schedule(0, 6), 615);
        for (int p = 0; p < 6; p++) {
            slots("its own", x, 12, p, 5 - p, 0, 0, 10);
        }
        x.programme(5, 12, 13);
        Due.is("one more that MAST 5 alone FITS", x.schedule(0, 6), 615);
        slots("it has none", x, 12, 6, -1, -1, -1, 0);
    }

    /** All there can be: LISTENERS of a whole DAY. */
    private static void full() {
        House x = new House();
        for (int k = 0; k < 8; k++) {
            x.ground(0, 3, 10000);
        }
        x.ground(0, 3, 0);
        for (int m = 0; m < 6; m++) {
            x.mast(0, 9);
        }
        for (int p = 0; p < 10; p++) {
            x.programme(p % 8, 0, 24);
        }
        x.sheet(0, 270);
        x.sheet(3, 270);
        for (int suns = 0; suns < 9; suns++) {
            x.cell(0, suns * 30, -99);
            x.cell(3, suns * 30, 99);
        }
        for (int land = 0; land < 8; land++) {
            x.report(0, land, 0, 12, 99);
        }
        Due.is("the most", x.schedule(3599, 8), 24 * 60000);
        for (int hour = 0; hour < 24; hour++) {
            Due.is("listeners(" + hour + ")", x.listeners(hour), 60000);
            slots("the strongest", x, hour, 5, 5, 0, 0, 306);
            slots("none left", x, hour, 6, -1, -1, -1, 0);
        }
    }

    private static House whole() {
        House x = heard(house(5), 0);
        x.programme(0, 0, 24);
        x.programme(0, 0, 24);
        x.schedule(0, 1);
        return x;
    }

    /** "NONE for others": no such HOUR, for every what. */
    private static void slotsHour() {
        House x = whole();
        for (int hour : new int[] {-1, 24, MIN, MAX}) {
            slots("no HOUR", x, hour, 0, -1, -1, -1, -1);
            slots("no HOUR", x, hour, 1, -1, -1, -1, -1);
        }
        slots("the first HOUR", x, 0, 0, 0, 0, 0, 25);
        slots("the last HOUR", x, 23, 0, 0, 0, 0, 25);
    }

    /** "NONE for others": no such PROGRAMME, for every what. */
    private static void slotsProgramme() {
        House x = whole();
        for (int p : new int[] {-1, 2, 9, 10, MIN, MAX}) {
            slots("no PROGRAMME", x, 12, p, -1, -1, -1, -1);
        }
        slots("the first", x, 12, 0, 0, 0, 0, 25);
        slots("the last", x, 12, 1, -1, -1, -1, 0);
    }

    /** "what 0: its MAST (NONE), 1: BAND, 2: AIM, 3: STRENGTH. NONE for others". */
    private static void slotsWhat() {
        House x = whole();
        for (int what : new int[] {-1, 4, 5, MIN, MAX}) {
            Due.is("slot(12, 0, " + what + ")", x.slot(12, 0, what), -1);
            Due.is("slot(12, 1, " + what + ")", x.slot(12, 1, what), -1);
        }
    }

    /** "or without a MAST (what 3: 0)": in its HOURS and outside; without a SCHEDULE, and for a later PROGRAMME, NONE. */
    private static void slotWithoutMast() {
        House x = heard(house(5), 0);
        x.programme(0, 12, 13);
        x.programme(0, 12, 13);
        slots("no SCHEDULE", x, 12, 0, -1, -1, -1, -1);
        x.schedule(0, 1);
        slots("without a MAST", x, 12, 1, -1, -1, -1, 0);
        slots("ahead of its HOURS", x, 11, 0, -1, -1, -1, 0);
        slots("behind its HOURS", x, 13, 0, -1, -1, -1, 0);
        x.programme(0, 12, 13);
        slots("a later PROGRAMME", x, 12, 2, -1, -1, -1, -1);
        x.schedule(0, 1);
        slots("it is of this SCHEDULE", x, 12, 2, -1, -1, -1, 0);
    }

    /** "LISTENERS in an HOUR of the SCHEDULE at hand; NONE for others". */
    private static void listenersHour() {
        House x = heard(house(5), 0);
        x.programme(0, 0, 1);
        x.programme(0, 23, 24);
        for (int hour : new int[] {-1, 0, 12, 23, 24}) {
            Due.is("no SCHEDULE, listeners(" + hour + ")", x.listeners(hour), -1);
        }
        x.schedule(0, 1);
        for (int hour : new int[] {-1, 24, MIN, MAX}) {
            Due.is("listeners(" + hour + ")", x.listeners(hour), -1);
        }
        Due.is("listeners(0)", x.listeners(0), 100);
        Due.is("listeners(1)", x.listeners(1), 0);
        Due.is("listeners(22)", x.listeners(22), 0);
        Due.is("listeners(23)", x.listeners(23), 100);
    }
}
