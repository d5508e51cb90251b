/** Promises 12 and 13, edge by edge: REPORTS and NOTICES. */
public final class FactEdgesTest {
    private static final int MIN = Integer.MIN_VALUE;
    private static final int MAX = Integer.MAX_VALUE;

    public static void main(String[] args) {
        reportsSite();
        reportsLand();
        reportsBand();
        reportsHour();
        reportsHeard();
        reportsDay();
        noticesBand();
        noticesHours();
        noticesLand();
        noticesDay();
        numberedFromZero();
        factsAtMost();
        Due.end();
    }

    /** LAND 0 and SITE 0 at one place, with SHEETS of 0s. */
    private static House flat() {
        House x = States.small();
        for (int season = 0; season < 4; season++) {
            x.sheet(season, 270);
        }
        return x;
    }

    /** "NONE, and nothing happens: no such SITE". */
    private static void reportsSite() {
        for (int site : new int[] {-1, 2, 4, MIN, MAX}) {
            Refused.none("report(" + site + ", 0, 1, 12, 40)", x -> x.report(site, 0, 1, 12, 40));
        }
        Due.is("SITE 0", States.furnished().report(0, 0, 1, 12, 40), 4);
        Due.is("the last SITE", States.furnished().report(1, 0, 1, 12, 40), 4);
        House x = new House();
        x.ground(0, 0, 1);
        Due.is("without a SITE", x.report(0, 0, 0, 0, 0), -1);
        Due.is("no FACT", x.count(4), 0);
    }

    /** "NONE, and nothing happens: no such LAND". */
    private static void reportsLand() {
        for (int land : new int[] {-1, 3, 8, MIN, MAX}) {
            Refused.none("report(0, " + land + ", 1, 12, 40)", x -> x.report(0, land, 1, 12, 40));
        }
        Due.is("LAND 0", States.furnished().report(0, 0, 1, 12, 40), 4);
        Due.is("the last LAND", States.furnished().report(0, 2, 1, 12, 40), 4);
        House x = new House();
        x.ground(0, 0, 0);
        Due.is("without a LAND", x.report(0, 0, 0, 0, 0), -1);
        Due.is("no FACT", x.count(4), 0);
    }

    /** "BANDS 0 .. 5"; "NONE, and nothing happens: no such BAND". */
    private static void reportsBand() {
        for (int band : new int[] {-1, 6, MIN, MAX}) {
            Refused.none("report(0, 0, " + band + ", 12, 40)", x -> x.report(0, 0, band, 12, 40));
        }
        for (int band : new int[] {0, 5}) {
            House x = flat();
            Due.is("BAND " + band, x.report(0, 0, band, 12, 40), 0);
            for (int other = 0; other < 6; other++) {
                Due.is("BAND " + band + " put right, not " + other, x.correction(0, 0, other, 1), other == band ? 40 : 0);
            }
        }
    }

    /** "HOURS 0 .. 23"; "NONE, and nothing happens: no such HOUR". */
    private static void reportsHour() {
        for (int hour : new int[] {-1, 24, MIN, MAX}) {
            Refused.none("report(0, 0, 1, " + hour + ", 40)", x -> x.report(0, 0, 1, hour, 40));
        }
        for (int hour : new int[] {0, 23}) {
            House x = flat();
            x.cell(0, 0, 5);
            Due.is("HOUR " + hour, x.report(0, 0, 0, hour, 40), 0);
            Due.is("the cell at night, HOUR " + hour, x.correction(0, 0, 0, 1), 35);
        }
    }

    /** "heard -99 .. 99"; "NONE, and nothing happens: no such heard". */
    private static void reportsHeard() {
        for (int heard : new int[] {-101, -100, 100, 101, MIN, MAX}) {
            Refused.none("report(0, 0, 1, 12, " + heard + ")", x -> x.report(0, 0, 1, 12, heard));
        }
        for (int heard : new int[] {-99, -98, 0, 98, 99}) {
            House x = flat();
            Due.is("heard " + heard, x.report(0, 0, 1, 12, heard), 0);
            Due.is("put right by " + heard, x.correction(0, 0, 1, 1), heard);
        }
    }

    /** "told on the CLOCK's DAY": the first, the last, and those around a SEASON's end. */
    private static void reportsDay() {
        int[][] days = {{0, 0}, {89, 0}, {90, 1}, {179, 1}, {180, 2}, {269, 2}, {270, 3}, {359, 3}, {360, 0}, {3599, 3}};
        for (int[] d : days) {
            House x = flat();
            for (int season = 0; season < 4; season++) {
                x.cell(season, House.noon(0), 10 * season);
            }
            x.clock(d[0]);
            x.report(0, 0, 0, 12, 40);
            Due.is("told on DAY " + d[0], x.correction(0, 0, 0, 1), 40 - 10 * d[1]);
            x.clock(3599);
            Due.is("told on DAY " + d[0] + ", asked on the last", x.correction(0, 0, 0, 1), 40 - 10 * d[1]);
        }
    }

    /** "NONE, and nothing happens: no such BAND". */
    private static void noticesBand() {
        for (int band : new int[] {-1, 6, MIN, MAX}) {
            Refused.none("notice(" + band + ", 0, 24, 0, 0)", x -> x.notice(band, 0, 24, 0, 0));
        }
        for (int band : new int[] {0, 5}) {
            House x = States.small();
            Due.is("BAND " + band, x.notice(band, 0, 24, 0, 0), 0);
            for (int other = 0; other < 6; other++) {
                Due.is("BAND " + band + " clashes, not " + other, x.yields(0, other, 0, 0, 0, 1), other == band ? 0 : -1);
            }
        }
    }

    /** "NONE, and nothing happens: from is not 0 .. until - 1, until above 24". */
    private static void noticesHours() {
        int[][] wrong = {{-1, 1}, {-1, 0}, {-1, 24}, {0, 0}, {1, 1}, {2, 1}, {23, 23}, {24, 24}, {24, 23}, {0, 25}, {23, 25}, {24, 25},
            {0, -1}, {-2, -1}, {MIN, 1}, {MAX, 24}, {MAX, MIN}, {0, MAX}, {0, MIN}, {MIN, MIN}, {MIN, MAX}, {MAX, MAX}};
        for (int[] w : wrong) {
            Refused.none("notice(0, " + w[0] + ", " + w[1] + ", 0, 0)", x -> x.notice(0, w[0], w[1], 0, 0));
        }
        int[][] right = {{0, 1}, {0, 24}, {22, 23}, {22, 24}, {23, 24}};
        for (int[] r : right) {
            House x = States.small();
            Due.is("notice(0, " + r[0] + ", " + r[1] + ", 0, 0)", x.notice(0, r[0], r[1], 0, 0), 0);
            for (int hour = 0; hour < 24; hour++) {
                int due = hour >= r[0] && hour < r[1] ? 0 : -1;
                Due.is("from " + r[0] + " until " + r[1] + " at " + hour, x.yields(0, 0, 0, 0, hour, 1), due);
            }
        }
    }

    /** "NONE, and nothing happens: no such LAND". */
    private static void noticesLand() {
        for (int land : new int[] {-1, 3, 8, MIN, MAX}) {
            Refused.none("notice(0, 0, 24, " + land + ", 0)", x -> x.notice(0, 0, 24, land, 0));
        }
        Due.is("LAND 0", States.furnished().notice(0, 0, 24, 0, 0), 4);
        Due.is("the last LAND", States.furnished().notice(0, 0, 24, 2, 0), 4);
        House x = new House();
        x.ground(0, 0, 0);
        Due.is("a SITE is no LAND", x.notice(0, 0, 24, 0, 0), -1);
        Due.is("no FACT", x.count(4), 0);
    }

    /** "no such DAY (0 .. 3599)"; one ahead of the CLOCK's is a DAY, too. */
    private static void noticesDay() {
        for (int day : new int[] {-1, 3600, MIN, MAX}) {
            Refused.none("notice(0, 0, 24, 0, " + day + ")", x -> x.notice(0, 0, 24, 0, day));
        }
        House x = States.small();
        x.clock(10);
        Due.is("DAY 0, ahead of the CLOCK's", x.notice(0, 0, 24, 0, 0), 0);
        Due.is("DAY 9, ahead of the CLOCK's", x.notice(1, 0, 24, 0, 9), 1);
        Due.is("the last DAY", x.notice(2, 0, 24, 0, 3599), 2);
        Due.is("it holds on DAY 0", x.yields(0, 0, 0, 0, 0, 3), 0);
        Due.is("it does not hold on DAY 8", x.yields(0, 1, 0, 8, 0, 3), -1);
        Due.is("it holds on DAY 9", x.yields(0, 1, 0, 9, 0, 3), 1);
        Due.is("it does not hold on DAY 3598", x.yields(0, 2, 0, 3598, 0, 3), -1);
        Due.is("it holds on DAY 3599", x.yields(0, 2, 0, 3599, 0, 3), 2);
    }

    /** "FACTS, numbered from 0 on": REPORTS and NOTICES together. */
    private static void numberedFromZero() {
        House x = States.small();
        Due.is("a REPORT", x.report(0, 0, 0, 0, 0), 0);
        Due.is("a NOTICE", x.notice(0, 0, 1, 0, 0), 1);
        Due.is("a NOTICE", x.notice(0, 0, 1, 0, 0), 2);
        Due.is("refused", x.report(0, 0, 0, 0, 100), -1);
        Due.is("a REPORT", x.report(0, 0, 0, 0, 0), 3);
        Due.is("4 FACTS", x.count(4), 4);
    }

    /** 300 FACTS by turns, the last of them a REPORT or a NOTICE. */
    private static House threeHundred(int first) {
        House x = States.furnished();
        for (int f = 4; f < 300; f++) {
            int number = (f + first) % 2 == 0 ? x.notice(4, 0, 24, 1, f) : x.report(1, 0, 3, 12, f % 50);
            Due.is("FACT " + f, number, f);
        }
        return x;
    }

    /** "FACTS, 300 at most"; "NONE, and nothing happens: 300 are there". */
    private static void factsAtMost() {
        for (int first = 0; first < 2; first++) {
            int turn = first;
            Refused.none("a 301st FACT, a REPORT", () -> threeHundred(turn), x -> x.report(0, 0, 1, 12, 40));
            Refused.none("a 301st FACT, a NOTICE", () -> threeHundred(turn), x -> x.notice(0, 0, 24, 0, 0));
        }
        House x = threeHundred(1);
        Due.is("300 FACTS", x.count(4), 300);
        Due.is("as KNOWN by 299", x.yields(0, 4, 1, 3599, 12, 299), 5);
        Due.is("the last NOTICE", x.rule(0, 4, 1, 3599, 12, 299), 1);
        Due.is("there is no FACT 300", x.rule(0, 4, 1, 3599, 12, 300), -1);
        Due.is("as KNOWN by 300", x.yields(0, 4, 1, 3599, 12, 300), 5);
        Due.is("as KNOWN by 301", x.yields(0, 4, 1, 3599, 12, 301), -1);
    }
}
