/** Part III of the Terms and promises 18 and 19, edge by edge: RULES in force, VARS, RELS, CLASHES and who yields. */
public final class ClashEdgesTest {
    private static final int MIN = Integer.MIN_VALUE;
    private static final int MAX = Integer.MAX_VALUE;

    public static void main(String[] args) {
        inForceFrom();
        inForceUntil();
        inForceBetween();
        alwaysForEver();
        numberedFromZero();
        vars();
        rels();
        allRelsHold();
        bindingOfSigns();
        wrapping();
        deepSums();
        noticesDay();
        noticesHours();
        noticesBand();
        noticesNearness();
        firstRule();
        withoutRule();
        firstNotice();
        yieldsKnown();
        yieldsOthers();
        rulesNotice();
        rulesOthers();
        Due.end();
    }

    /** LAND 0, SITE 0, MAST 0 of POWER 4, and a NOTICE at all HOURS of all DAYS on BAND 0. */
    private static House clashing() {
        House x = States.small();
        x.notice(0, 0, 24, 0, 0);
        return x;
    }

    /** Which RULE decides on a DAY. */
    private static void days(String text, int... due) {
        House x = clashing();
        Due.is("read() of " + text, x.readText(text), 0);
        for (int k = 0; k < due.length; k += 2) {
            Due.is(text + " on DAY " + due[k], x.rule(0, 0, 0, due[k], 0, 0), due[k + 1]);
        }
    }

    /** "one is in force on the DAYS from ..". */
    private static void inForceFrom() {
        days("we yield from 10;", 0, -1, 9, -1, 10, 0, 11, 0, 3599, 0);
        days("we yield from 0;", 0, 0, 3599, 0);
        days("we yield from 3599;", 3598, -1, 3599, 0);
        days("we yield from 3600;", 0, -1, 3599, -1);
        days("we yield from 9999;", 0, -1, 3599, -1);
    }

    /** ".. until (not with ..)". */
    private static void inForceUntil() {
        days("we yield until 10;", 0, 0, 9, 0, 10, -1, 11, -1, 3599, -1);
        days("we yield until 1;", 0, 0, 1, -1);
        days("we yield until 3599;", 3598, 0, 3599, -1);
        days("we yield until 3600;", 0, 0, 3599, 0);
        days("we yield until 9999;", 0, 0, 3599, 0);
    }

    private static void inForceBetween() {
        days("we yield from 10 until 12;", 9, -1, 10, 0, 11, 0, 12, -1);
        days("we yield from 10 until 11;", 9, -1, 10, 0, 11, -1);
        days("we yield from 10 until 11; they yield from 11 until 12; we yield from 5;", 4, -1, 5, 2, 9, 2, 10, 0, 11, 1, 12, 2);
        days("we yield from 10 until 20 if day != 15;", 9, -1, 10, 0, 15, -1, 19, 0, 20, -1);
    }

    /** "(.. without: always, for ever)": nothing of a RULE ahead stays with the next one. */
    private static void alwaysForEver() {
        days("we yield;", 0, 0, 3599, 0);
        days("they yield from 10 until 20; we yield;", 0, 1, 9, 1, 10, 0, 19, 0, 20, 1, 3599, 1);
        days("they yield until 20; we yield from 30;", 19, 0, 20, -1, 29, -1, 30, 1, 3599, 1);
    }

    /** "RULES are numbered from 0 on". */
    private static void numberedFromZero() {
        StringBuilder text = new StringBuilder();
        for (int r = 0; r < 20; r++) {
            text.append("we yield if day == ").append(r).append(";");
        }
        House x = clashing();
        Due.is("read()", x.readText(text.toString()), 0);
        for (int r = 0; r < 20; r++) {
            Due.is("RULE " + r, x.rule(0, 0, 0, r, 0, 0), r);
        }
        Due.is("by none", x.rule(0, 0, 0, 20, 0, 0), -1);
    }

    /** "VARS: the BAND, HOUR, DAY; the LAND's number, ..": each with the least and the greatest that it can be. */
    private static void vars() {
        House x = new House();
        for (int k = 0; k < 8; k++) {
            x.ground(k == 0 || k == 7 ? 0 : 12, 3, 1);
        }
        x.ground(0, 3, 0);
        x.mast(0, 1);
        x.mast(0, 9);
        x.notice(0, 0, 24, 7, 0);
        for (int f = 1; f < 299; f++) {
            x.notice(3, 0, 24, 1, 5);
        }
        x.notice(5, 0, 24, 0, 3599);
        x.readText("they yield if band == 0 and hour == 0 and day == 0 and land == 0 and aim == 7 and power == 1 and since == 0"
            + " and notice == 0; they yield if band == 5 and hour == 23 and day == 3599 and land == 7 and aim == 0 and power == 9"
            + " and since == 3599 and notice == 299;");
        Due.is("the least", x.rule(0, 0, 0, 0, 0, 0), 0);
        Due.is("another MAST", x.rule(1, 0, 0, 0, 0, 0), -1);
        Due.is("another HOUR", x.rule(0, 0, 0, 0, 1, 0), -1);
        Due.is("another DAY", x.rule(0, 0, 0, 1, 0, 0), -1);
        Due.is("another LAND", x.rule(0, 0, 7, 0, 0, 0), -1);
        Due.is("the greatest", x.rule(1, 5, 7, 3599, 23, 299), 1);
        Due.is("another MAST", x.rule(0, 5, 7, 3599, 23, 299), -1);
        Due.is("another HOUR", x.rule(1, 5, 7, 3599, 22, 299), -1);
        Due.is("another LAND", x.rule(1, 5, 0, 3599, 23, 299), -1);
    }

    private static void holds(String rel, boolean due) {
        House x = clashing();
        Due.is("read() if " + rel, x.readText("they yield if " + rel + ";"), 0);
        Due.is("rule() if " + rel, x.rule(0, 0, 0, 0, 0, 0), due ? 0 : -1);
        Due.is("yields() if " + rel, x.yields(0, 0, 0, 0, 0, 1), due ? -1 : 0);
    }

    /** "REL: E ('==' | '!=' | '<' | '<=') E": one less, equal, one more, and below 0. */
    private static void rels() {
        String[] signs = {"==", "!=", "<", "<="};
        boolean[][] due = {{false, true, false}, {true, false, true}, {true, false, false}, {true, true, false}};
        for (int s = 0; s < 4; s++) {
            for (int k = 0; k < 3; k++) {
                holds(4 + k + signs[s] + "5", due[s][k]);
                holds("0-" + (6 - k) + signs[s] + "0-5", due[s][k]);
                holds("0+" + k + "-1" + signs[s] + "0", due[s][k]);
            }
        }
    }

    /** "whose RELS hold": all of them, the first, the last and one between. */
    private static void allRelsHold() {
        holds("1==1 and 2==2 and 3==3", true);
        holds("1==0 and 2==2 and 3==3", false);
        holds("1==1 and 2==0 and 3==3", false);
        holds("1==1 and 2==2 and 3==0", false);
        holds("1==1" + " and 1==1".repeat(90) + " and 1==2", false);
        holds("1==1" + " and 1==1".repeat(90) + " and 2==2", true);
    }

    /** "E: PART {('+' | '-') PART}. PART: UNIT {'*' UNIT}": from the left on, * ahead of + and -. */
    private static void bindingOfSigns() {
        holds("10-4-3==3", true);
        holds("10-4+3==9", true);
        holds("10-(4-3)==9", true);
        holds("2+3*4==14", true);
        holds("2*3+4==10", true);
        holds("(2+3)*4==20", true);
        holds("20-2*3-4==10", true);
        holds("2*3*4-5*2==14", true);
        holds("((2))==2", true);
        holds("1+1==2*1", true);
    }

    /** "Ints of 32 bits that wrap". */
    private static void wrapping() {
        String most = "(1024*1024*2047+1024*1024-1)";
        String two31 = "1024*1024*2048";
        holds("0<" + most, true);
        holds(most + "+1<0", true);
        holds(most + "+1==" + two31, true);
        holds(two31 + "<0", true);
        holds(two31 + "==0-" + two31, true);
        holds("0<" + two31 + "-1", true);
        holds(two31 + "-1==" + most, true);
        holds("1024*1024*4096==0", true);
        holds(most + "*2==0-2", true);
        holds(most + "*" + most + "==1", true);
        holds("9999*9999*9999==0-((9999*10+2755)*9999+2714)", true);
        holds(two31 + "<=" + most, true);
        holds(most + "<" + two31, false);
    }

    /** Six brackets within one another, on both sides, with a sum and a product waiting ahead of each. */
    private static void deepSums() {
        String deep = "1+2*(".repeat(6) + "1+2*3" + ")".repeat(6);
        holds(deep + "==511", true);
        holds("511==" + deep, true);
        holds(deep + "==" + deep, true);
        holds("0+1*" + "(".repeat(6) + "band" + ")".repeat(6) + "==0", true);
        holds("power*(power-(power*(power-(power*(power-1)))))==144", true);
    }

    /** "the NOTICE holds on the DAY": from its DAY on. */
    private static void noticesDay() {
        for (int since : new int[] {0, 1, 90, 3598, 3599}) {
            House x = States.small();
            x.notice(0, 0, 24, 0, since);
            x.readText("we yield;");
            for (int day : new int[] {0, since - 1, since, since + 1, 3599}) {
                int due = day >= since && day < 3600 ? 0 : -1;
                Due.is("since " + since + " on " + day, x.yields(0, 0, 0, day, 0, 1), due);
                Due.is("since " + since + " on " + day, x.rule(0, 0, 0, day, 0, 0), due);
            }
        }
    }

    /** "has the HOUR": from an HOUR up to (not with) another one. */
    private static void noticesHours() {
        int[][] spans = {{0, 1}, {5, 6}, {5, 8}, {23, 24}, {0, 24}};
        for (int[] s : spans) {
            House x = States.small();
            x.notice(0, s[0], s[1], 0, 0);
            x.readText("we yield;");
            for (int hour = 0; hour < 24; hour++) {
                int due = hour >= s[0] && hour < s[1] ? 0 : -1;
                Due.is("from " + s[0] + " until " + s[1] + " at " + hour, x.yields(0, 0, 0, 0, hour, 1), due);
                Due.is("from " + s[0] + " until " + s[1] + " at " + hour, x.rule(0, 0, 0, 0, hour, 0), due);
            }
        }
    }

    /** "has the BAND". */
    private static void noticesBand() {
        House x = States.small();
        x.notice(0, 0, 24, 0, 0);
        x.notice(5, 0, 24, 0, 0);
        x.readText("we yield;");
        for (int band = 0; band < 6; band++) {
            Due.is("yields on BAND " + band, x.yields(0, band, 0, 0, 0, 2), band == 0 ? 0 : band == 5 ? 1 : -1);
            Due.is("rule on BAND " + band + " with 0", x.rule(0, band, 0, 0, 0, 0), band == 0 ? 0 : -1);
            Due.is("rule on BAND " + band + " with 1", x.rule(0, band, 0, 0, 0, 1), band == 5 ? 0 : -1);
        }
    }

    /** "its LAND's WAY from that LAND has FAR 0": below 5, AROUND and over the poles; where the SITE is does not count. */
    private static void noticesNearness() {
        int[][] due = {{0, 3, 0, 3, 1}, {0, 3, 4, 3, 1}, {0, 3, 5, 3, 0}, {0, 3, 20, 3, 1}, {0, 3, 19, 3, 0}, {0, 0, 0, 4, 1},
            {0, 0, 0, 5, 0}, {0, 3, 1, 6, 1}, {0, 3, 2, 6, 0}, {22, 3, 2, 3, 1}, {22, 3, 3, 3, 0}, {0, 0, 9, 0, 1}, {0, 0, 8, 0, 0},
            {0, 0, 12, 3, 1}, {0, 0, 12, 4, 0}, {0, 6, 9, 6, 1}, {0, 6, 8, 6, 0}, {0, 6, 12, 3, 1}, {0, 6, 12, 2, 0}};
        for (int[] d : due) {
            for (int site = 0; site < 24; site += 11) {
                House x = new House();
                x.ground(d[0], d[1], 1);
                x.ground(d[2], d[3], 1);
                x.ground(site, 3, 0);
                x.mast(0, 1);
                x.notice(0, 0, 24, 1, 0);
                x.readText("we yield;");
                String at = " from " + d[0] + "," + d[1] + " to " + d[2] + "," + d[3];
                Due.is("CLASH" + at, x.yields(0, 0, 0, 0, 0, 1), d[4] - 1);
                Due.is("CLASH" + at, x.rule(0, 0, 0, 0, 0, 0), d[4] - 1);
                Due.is("with its own LAND", x.yields(0, 0, 1, 0, 0, 1), 0);
            }
        }
    }

    /** "By the first RULE that is in force and whose RELS hold: who it says yields". */
    private static void firstRule() {
        House x = clashing();
        x.readText("they yield; we yield;");
        Due.is("the first of two", x.rule(0, 0, 0, 0, 0, 0), 0);
        Due.is("they yield", x.yields(0, 0, 0, 0, 0, 1), -1);
        x.readText("we yield; they yield;");
        Due.is("we yield", x.yields(0, 0, 0, 0, 0, 1), 0);
        x.readText("they yield from 1; they yield if 1==2; we yield; they yield;");
        Due.is("not in force, does not hold", x.rule(0, 0, 0, 0, 0, 0), 2);
        Due.is("we yield", x.yields(0, 0, 0, 0, 0, 1), 0);
        Due.is("in force", x.rule(0, 0, 0, 1, 0, 0), 0);
        Due.is("they yield", x.yields(0, 0, 0, 1, 0, 1), -1);
        x.readText("we yield if 1==2;".repeat(19) + "they yield;");
        Due.is("the last of 20", x.rule(0, 0, 0, 0, 0, 0), 19);
        Due.is("they yield", x.yields(0, 0, 0, 0, 0, 1), -1);
    }

    /** "without one we do"; "NONE: it is by none". */
    private static void withoutRule() {
        House x = clashing();
        Due.is("no text", x.rule(0, 0, 0, 0, 0, 0), -1);
        Due.is("no text: we yield", x.yields(0, 0, 0, 0, 0, 1), 0);
        x.readText("they yield from 1; they yield if 1==2;");
        Due.is("by none", x.rule(0, 0, 0, 0, 0, 0), -1);
        Due.is("by none: we yield", x.yields(0, 0, 0, 0, 0, 1), 0);
    }

    /** "The first NOTICE (its FACT) of those KNOWN by n to which MAST m has to yield". */
    private static void firstNotice() {
        House x = States.small();
        x.report(0, 0, 0, 0, 0);
        x.notice(0, 0, 1, 0, 0);
        x.notice(0, 0, 2, 0, 0);
        x.notice(0, 0, 3, 0, 0);
        int[] due = {1, 2, 3, -1};
        for (int hour = 0; hour < 4; hour++) {
            Due.is("the first at " + hour, x.yields(0, 0, 0, 0, hour, 4), due[hour]);
        }
        x.readText("they yield if notice != 3;");
        Due.is("they yield by 1 and 2", x.yields(0, 0, 0, 0, 0, 4), 3);
        x.readText("they yield;");
        Due.is("none", x.yields(0, 0, 0, 0, 0, 4), -1);
    }

    /** "of those KNOWN by n"; "NONE: no such ones": n. */
    private static void yieldsKnown() {
        House x = States.small();
        x.report(0, 0, 0, 0, 0);
        x.report(0, 0, 0, 0, 0);
        x.notice(0, 0, 24, 0, 0);
        x.notice(0, 0, 24, 0, 0);
        int[] due = {-1, -1, -1, 2, 2, -1};
        for (int n = 0; n < 6; n++) {
            Due.is("as KNOWN by " + n, x.yields(0, 0, 0, 0, 0, n), due[n]);
        }
        for (int n : new int[] {-1, 300, MIN, MAX}) {
            Due.is("as KNOWN by " + n, x.yields(0, 0, 0, 0, 0, n), -1);
        }
    }

    /** Clashes wherever MAST, BAND, LAND, DAY and HOUR are right: MASTS 0 .. 1, BANDS, LANDS 0 .. 1. */
    private static House everywhere() {
        House x = States.small();
        x.mast(0, 9);
        x.ground(0, 3, 1);
        for (int band = 0; band < 6; band++) {
            x.notice(band, 0, 24, 0, 0);
        }
        x.readText("we yield;");
        return x;
    }

    private static void both(House x, int m, int band, int land, int day, int hour, int due) {
        String at = "(" + m + ", " + band + ", " + land + ", " + day + ", " + hour + ", ..)";
        Due.is("yields" + at, x.yields(m, band, land, day, hour, 6), due);
        int f = band >= 0 && band < 6 ? band : 0;
        Due.is("rule" + at, x.rule(m, band, land, day, hour, f), due == -1 ? -1 : 0);
    }

    /** "NONE: none, or no such ones": MAST, BAND, LAND, DAY, HOUR, for yields and rule. */
    private static void yieldsOthers() {
        House x = everywhere();
        both(x, 0, 0, 0, 0, 0, 0);
        both(x, 1, 5, 1, 3599, 23, 5);
        for (int m : new int[] {-1, 2, 6, MIN, MAX}) {
            both(x, m, 0, 0, 0, 0, -1);
        }
        for (int band : new int[] {-1, 6, MIN, MAX}) {
            both(x, 0, band, 0, 0, 0, -1);
        }
        for (int land : new int[] {-1, 2, 8, MIN, MAX}) {
            both(x, 0, 0, land, 0, 0, -1);
        }
        for (int day : new int[] {-1, 3600, MIN, MAX}) {
            both(x, 0, 0, 0, day, 0, -1);
        }
        for (int hour : new int[] {-1, 24, MIN, MAX}) {
            both(x, 0, 0, 0, 0, hour, -1);
        }
    }

    /** "NONE: .. no such ones": a FACT that is none, or a REPORT. */
    private static void rulesNotice() {
        House x = States.small();
        x.report(0, 0, 0, 0, 0);
        x.notice(0, 0, 24, 0, 0);
        x.report(0, 0, 0, 0, 0);
        x.readText("we yield;");
        int[] due = {-1, 0, -1, -1};
        for (int f = 0; f < 4; f++) {
            Due.is("rule with FACT " + f, x.rule(0, 0, 0, 0, 0, f), due[f]);
        }
        for (int f : new int[] {-1, 300, MIN, MAX}) {
            Due.is("rule with FACT " + f, x.rule(0, 0, 0, 0, 0, f), -1);
        }
        House y = States.small();
        y.readText("we yield;");
        Due.is("there are no FACTS", y.rule(0, 0, 0, 0, 0, 0), -1);
    }

    /** "NONE: there is no CLASH": though a RULE would hold. */
    private static void rulesOthers() {
        House x = States.small();
        x.ground(12, 3, 1);
        x.notice(2, 5, 6, 0, 7);
        x.readText("they yield;");
        Due.is("a CLASH", x.rule(0, 2, 0, 7, 5, 0), 0);
        Due.is("another BAND", x.rule(0, 1, 0, 7, 5, 0), -1);
        Due.is("a far LAND", x.rule(0, 2, 1, 7, 5, 0), -1);
        Due.is("the DAY ahead", x.rule(0, 2, 0, 6, 5, 0), -1);
        Due.is("the HOUR ahead", x.rule(0, 2, 0, 7, 4, 0), -1);
        Due.is("the HOUR behind", x.rule(0, 2, 0, 7, 6, 0), -1);
    }
}
