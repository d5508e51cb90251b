/** Promises 4, 5 and the meaning of texts by promises 18 and 19. */
public final class TreatyTest {
    public static void main(String[] args) {
        tokens();
        textsEnds();
        grammar();
        everyTokenBehindEach();
        room();
        wrongDays();
        meaning();
        force();
        Due.end();
    }

    private static void due(String text, int fault, int place) {
        House x = new House();
        x.type(text);
        Due.is("read() of '" + text + "'", x.read(), fault);
        Due.is("place() in '" + text + "'", x.place(), place);
    }

    private static void fine(String text) {
        due(text, 0, -1);
    }

    private static void tokens() {
        fine("\t\n\r we\tyield\n;\r");
        fine("we yield if(band+1)*2<=3and hour!=4;they yield;");
        fine("we yield from1until2if band==1;");
        due("we yield if band==12345;", 1, 18);
        fine("we yield if band==1234;");
        fine("we yield if band==0000;");
        due("weyield;", 1, 0);
        due("we yieldxxxx;", 1, 3);
        due("We yield;", 1, 0);
        due("we yield if band = 1;", 1, 17);
        due("we yield if band === 1;", 1, 19);
        due("we yield if band !1;", 1, 17);
        due("we yield if band < = 1;", 1, 19);
        due("we yield if band > 1;", 1, 17);
        due("we yieldz;", 1, 3);
        due("we yieldazby;", 1, 3);
        due("we yield`;", 1, 8);
        due("we yield{;", 1, 8);
        due("we yield/;", 1, 8);
        due("we yield:;", 1, 8);
        due("we yield\u000b;", 1, 8);
        due("we yield\u0000;", 1, 8);
        due("we yield\u00a0;", 1, 8);
        due("we yield if abcdefghi == 1;", 1, 12);
        due("we yield if bands == 1;", 1, 12);
        due("we yield;=", 1, 9);
        due("we yield;!", 1, 9);
        fine("we yield if notice<since;");
    }

    /** What the tape had behind its end does not count, and a full one has nothing behind it. */
    private static void textsEnds() {
        String[] texts = {"we yield until 12", "we yield if 1 <=", "we yield if 1 ==", "we yieldd", "we yield ;;", "we yield if 1 !="};
        int[][] due = {{1, 16}, {1, 15}, {1, 14}, {1, 8}, {0, -1}, {1, 14}};
        for (int k = 0; k < texts.length; k++) {
            House x = new House();
            x.type(texts[k]);
            x.back(1);
            Due.is("read() of '" + texts[k] + "' but one", x.read(), due[k][0]);
            Due.is("place() in '" + texts[k] + "' but one", x.place(), due[k][1]);
        }
        String[] ends = {"we yield if 1 <", "we yield if 1 =", "we yield until 1", "we yield", "we yield;", "we yield; ", "#"};
        int[][] atEnd = {{1, 2000}, {1, 1999}, {1, 2000}, {1, 2000}, {0, -1}, {0, -1}, {1, 1999}};
        for (int k = 0; k < ends.length; k++) {
            due(" ".repeat(2000 - ends[k].length()) + ends[k], atEnd[k][0], atEnd[k][1]);
        }
        due("we".repeat(1000), 1, 0);
        due("1".repeat(2000), 1, 0);
    }

    private static void everyTokenBehindEach() {
        String[] starts = {"", "we", "we yield", "they yield from", "we yield from 1", "we yield until", "we yield from 1 until 2",
            "we yield until 2", "we yield if", "we yield if 1", "we yield if (", "we yield if (band", "we yield if (1)",
            "we yield if 1 +", "we yield if 1 *", "we yield if 1 -", "we yield if 1 ==", "we yield if 1 == 2", "we yield if 1 < (2",
            "we yield if 1 < (2)", "we yield if 1 < 2 and", "we yield if 1 < 2 and 3", "we yield if 1 < 2 and 3 <= day", "we yield;"};
        String tokens = "we they yield from until if and band hour day land aim power since notice ; + - * == != < <= ( ) 0 9999 99999"
            + " = ! > >= , word wordword wordwords # we; \u00ff";
        for (String start : starts) {
            for (String token : tokens.split(" ")) {
                String text = start + " " + token;
                TextModel model = new TextModel(text.chars().boxed().toList());
                due(text, model.fault, model.place);
                Due.is("a fault in '" + text + "'", model.fault != 0 || text.endsWith(";"), true);
            }
        }
    }

    private static void grammar() {
        fine("");
        fine("   ");
        fine("we yield;");
        due("we", 1, 2);
        due("we  ", 1, 4);
        due("we yield", 1, 8);
        due("we yield; ;", 1, 10);
        due("we we yield;", 1, 3);
        due("yield;", 1, 0);
        due("we yield from;", 1, 13);
        due("we yield from 1 from 2;", 1, 16);
        due("we yield until 2 from 1;", 1, 17);
        due("we yield until 2 until 3;", 1, 17);
        due("we yield until;", 1, 14);
        due("we yield from band;", 1, 14);
        due("we yield from (1);", 1, 14);
        due("we yield if;", 1, 11);
        due("we yield if 1;", 1, 13);
        due("we yield if 1 == ;", 1, 17);
        due("we yield if 1 == 2 == 3;", 1, 19);
        due("we yield if 1 == 2 and;", 1, 22);
        due("we yield if 1 and 2 == 2;", 1, 14);
        due("we yield if (1 == 2);", 1, 15);
        due("we yield if 1 == (2;", 1, 19);
        due("we yield if 1 == 2);", 1, 18);
        due("we yield if ();", 1, 13);
        due("we yield if -1 == 1;", 1, 12);
        due("we yield if 1 + == 1;", 1, 16);
        due("we yield if 1 2 == 1;", 1, 14);
        due("we yield if we == 1;", 1, 12);
        due("we yield if 1 == 1 if 1 == 1;", 1, 19);
        due("we yield if 1 == 1 from 3;", 1, 19);
        fine("they yield from 1 until 2 if band + hour - day * land == aim and power < since and notice <= 1;");
    }

    private static void room() {
        fine("we yield;".repeat(20));
        due("we yield;".repeat(20) + "they", 2, 180);
        due("we yield;".repeat(20) + " xx", 1, 181);
        due("we yield;".repeat(20) + " #", 1, 181);
        fine("we yield if ((((((1)))))) == ((((((2))))));");
        due("we yield if (((((((1))))))) == 2;", 2, 18);
        fine("we yield if (1) + (1) + (1) + (1) + (1) + (1) + (1) == 2;");
        due("we yield if 1 ((((((( == 2;", 1, 14);
        // 9 TOKENS, then 195 times 2: 399.
        String almost = "we yield;we yield if 1==1" + "+1".repeat(195);
        int end = almost.length();
        fine(almost + ";");
        fine(almost + " ; ");
        due(almost, 1, end);
        due(almost + "+1;", 2, end + 1);
        due(almost + "+;", 1, end + 1);
        due(almost + "+#", 1, end + 1);
        due(almost + "+", 1, end + 1);
        due(almost + ";they yield;", 2, end + 1);
        due(almost + "; yield;", 1, end + 2);
        due(almost + ";#", 1, end + 1);
    }

    private static void wrongDays() {
        due("we yield until 0;", 5, 15);
        fine("we yield until 1;");
        due("we yield from 5 until 5;", 5, 22);
        due("we yield from 5 until 4;", 5, 22);
        fine("we yield from 5 until 6;");
        fine("we yield from 9999;");
        due("we yield until 0; we yield until 0;", 5, 15);
        due("we yield until 0; we yield until;", 1, 32);
        due("we yield until 1; we yield until 000;", 5, 33);
        due("we yield until 0;" + "we yield;".repeat(20), 2, 17 + 9 * 19);
        House x = new House();
        x.readText("we yield;");
        Due.is("wrong", x.readText("we yield; they yield until 0;"), 5);
        Due.is("rules are kept", x.count(5), 1);
    }

    /** LANDS 0 .. 2 near one another, MAST 0 with POWER 7, FACT 0 a REPORT, FACT 1 a NOTICE on BAND 3 for LAND 2. */
    private static House house() {
        House x = new House();
        x.ground(0, 3, 1);
        x.ground(1, 3, 1);
        x.ground(2, 3, 1);
        x.ground(0, 3, 0);
        x.mast(0, 7);
        x.report(0, 0, 0, 0, 0);
        x.notice(3, 4, 20, 2, 11);
        return x;
    }

    /** Whether a REL holds for BAND 3, LAND 1, DAY 200, HOUR 5. */
    private static void holds(String rel, boolean due) {
        House x = house();
        Due.is("read() if " + rel, x.readText("they yield if " + rel + ";"), 0);
        Due.is("rule() if " + rel, x.rule(0, 3, 1, 200, 5, 1), due ? 0 : -1);
        Due.is("yields() if " + rel, x.yields(0, 3, 1, 200, 5, 2), due ? -1 : 1);
    }

    private static void meaning() {
        holds("band == 3 and hour == 5 and day == 200 and land == 1", true);
        holds("aim == 2 and power == 7 and since == 11 and notice == 1", true);
        holds("band == 3 and hour == 4", false);
        holds("hour == 4 and band == 3", false);
        holds("1 != 1", false);
        holds("1 != 2", true);
        holds("1 < 1", false);
        holds("1 <= 1", true);
        holds("2 <= 1", false);
        holds("2 < 1", false);
        holds("1 < 2", true);
        holds("1 + 2 * 3 == 7", true);
        holds("2 * 3 + 1 == 7", true);
        holds("(1 + 2) * 3 == 9", true);
        holds("9 - 3 - 2 == 4", true);
        holds("9 - 3 + 2 == 8", true);
        holds("9 - (3 + 2) == 4", true);
        holds("9 - 3 * 2 - 1 == 2", true);
        holds("2 * (3 + 4) * 5 - 1 == 69", true);
        holds("0 - 1 < 0", true);
        holds("2 == 1 + 1", true);
        holds("9999 * 9999 * 9999 == " + plain(9999 * 9999 * 9999), true);
        holds("1024 * 1024 * 2048 < 0", true);
        holds("0 < 1024 * 1024 * 2048 - 1", true);
        holds("(0 - 1024 * 1024 * 2048) < 0", true);
        holds("1024 * 1024 * 4096 == 0", true);
        String deep = "1+2*(".repeat(6) + "1+2*3" + ")".repeat(6);
        holds("512 - 1 == " + deep, true);
        holds(deep + " == 512 - 1", true);
        holds(deep + " == " + deep, true);
        holds(deep + " < " + deep + " + 1", true);
        holds("((((((band)))))) * ((((((hour)))))) == 15", true);
    }

    /** An int by INTS of 4 digits at most. */
    private static String plain(int v) {
        long rest = v & 0xffffffffL;
        return "((" + (rest >> 24) + " * 256 + " + (rest >> 16 & 255) + ") * 256 + " + (rest >> 8 & 255) + ") * 256 + "
            + (rest & 255);
    }

    private static void force() {
        House x = house();
        x.readText("they yield from 20 until 30; we yield from 30; they yield if band == 3 and day < 15;");
        int[][] due = {{11, 2, -1}, {14, 2, -1}, {15, -1, 1}, {19, -1, 1}, {20, 0, -1}, {29, 0, -1}, {30, 1, 1}, {3599, 1, 1}};
        for (int[] d : due) {
            Due.is("rule() on day " + d[0], x.rule(0, 3, 1, d[0], 5, 1), d[1]);
            Due.is("yields() on day " + d[0], x.yields(0, 3, 1, d[0], 5, 2), d[2]);
        }
        x.readText("they yield until 12; we yield;");
        Due.is("until alone", x.rule(0, 3, 1, 11, 5, 1), 0);
        Due.is("until alone", x.rule(0, 3, 1, 12, 5, 1), 1);
        x.readText("we yield; they yield;");
        Due.is("the first", x.rule(0, 3, 1, 12, 5, 1), 0);
        Due.is("the first", x.yields(0, 3, 1, 12, 5, 2), 1);
    }
}
