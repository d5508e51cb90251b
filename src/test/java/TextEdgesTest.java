/** Part III of the Terms and promises 4 and 5, edge by edge: TOKENS, and the FAULTS of a text. */
public final class TextEdgesTest {
    public static void main(String[] args) {
        blanks();
        blanksOrNot();
        letters();
        longWords();
        digits();
        longInts();
        signs();
        longestSigns();
        allElse();
        optionalParts();
        repeatedParts();
        textsEnd();
        firstByPlace();
        leastOfOnePlace();
        tokensAtMost();
        rulesAtMost();
        nestedAtMost();
        nestedAnew();
        wrongUntil();
        wrongWithoutFrom();
        wrongOnlyWithoutOthers();
        firstWrong();
        faultChangesNothing();
        inPlaceOfTheOneAhead();
        readAnewBehindFaults();
        Due.end();
    }

    private static void due(String text, int fault, int place) {
        House x = new House();
        x.type(text);
        Due.is("read() of '" + text + "'", x.read(), fault);
        Due.is("place() in '" + text + "'", x.place(), place);
        if (fault != 0) {
            Due.is("no RULES by '" + text + "'", x.count(5), 0);
        }
    }

    private static void rules(String text, int rules) {
        House x = new House();
        x.type(text);
        Due.is("read() of '" + text + "'", x.read(), 0);
        Due.is("place() in '" + text + "'", x.place(), -1);
        Due.is("RULES of '" + text + "'", x.count(5), rules);
    }

    private static void fine(String text) {
        rules(text, 1);
    }

    /** "with blanks (9, 10, 13, 32) between or not": of all 256 bytes these four alone stand between TOKENS. */
    private static void blanks() {
        for (int b = 0; b < 256; b++) {
            boolean blank = b == 9 || b == 10 || b == 13 || b == 32;
            boolean letter = b >= 'a' && b <= 'z';
            String text = "we" + (char) b + "yield;";
            if (blank) {
                fine(text);
            } else {
                due(text, 1, letter ? 0 : 2);
            }
        }
        fine("\r\n\t we\t\t\tyield\r\n; \n");
    }

    /** "with blanks between or not": none is needed where a TOKEN can't go on. */
    private static void blanksOrNot() {
        fine("we yield;");
        rules("we yield;they yield;", 2);
        fine("we yield from0until1if(band)==1and(2)<3;");
        fine("we yield from 0 until 1 if ( band ) == 1 and ( 2 ) < 3 ;");
        fine("we yield if 1<2and 3<4;");
        fine("we yield if 1==band;");
        due("weyield;", 1, 0);
        due("we yieldif 1==1;", 1, 3);
        due("we yield fro m 1;", 1, 9);
        due("we yield until 1 2;", 1, 17);
        due("we yield if 1 = = 1;", 1, 14);
        due("we yield if 1 ! = 1;", 1, 14);
        due("we yield if 1 < = 1;", 1, 16);
    }

    /** "WORDS (letters a .. z)": the signs next to a and z, and capitals, are no letters. */
    private static void letters() {
        for (char c : new char[] {'`', '{', 'A', 'Z', '@', '[', '_', (char) 225, (char) 250}) {
            due("we yield" + c + ";", 1, 8);
            due("we yield if " + c + "band == 1;", 1, 12);
            due("we yield if band" + c + " == 1;", 1, 16);
        }
        for (char c : new char[] {'a', 'z'}) {
            due("we yield" + c + ";", 1, 3);
            due("we yield if " + c + "band == 1;", 1, 12);
            due("we yield if band" + c + " == 1;", 1, 12);
        }
        due("We yield;", 1, 0);
        due("we YIELD;", 1, 3);
    }

    /** "WORDS (.., 8 at most) .. A longer one is no TOKEN": it is not cut, either. */
    private static void longWords() {
        due("theytheyt yield;", 1, 0);
        due("theythey yield;", 1, 0);
        due("weweweweyield;", 1, 0);
        due("we yieldyield;", 1, 3);
        due("we yieldfrom 1;", 1, 3);
        due("we yield if noticenotice == 1;", 1, 12);
        due("we yield if aaaaaaaaband == 1;", 1, 12);
        due("we yield if aaaaaaaa == 1;", 1, 12);
        due("a".repeat(2000), 1, 0);
    }

    /** "INTS (1 to 4 digits)": 0 .. 9 and no sign next to them. */
    private static void digits() {
        for (String number : new String[] {"0", "9", "00", "99", "000", "999", "0000", "1000", "9999"}) {
            fine("we yield from " + number + ";");
            fine("we yield if " + number + "==" + number + ";");
        }
        for (char c : new char[] {'/', ':', (char) 178}) {
            due("we yield from 1" + c + ";", 1, 15);
            due("we yield from " + c + "1;", 1, 14);
        }
        due("we yield from 1a;", 1, 15);
        due("we yield from -1;", 1, 14);
        due("we yield from +1;", 1, 14);
        House x = clashing();
        Due.is("read", x.readText("we yield if 9999 == 9998 + 1 and 0012 == 12 and 1234 == 1000 + 200 + 30 + 4;"), 0);
        Due.is("the INTS' numbers", x.rule(0, 0, 0, 0, 0, 0), 0);
    }

    /** "INTS (1 to 4 digits) .. A longer one is no TOKEN": it is not cut, either. */
    private static void longInts() {
        due("we yield from 10000;", 1, 14);
        due("we yield from 00000;", 1, 14);
        due("we yield from 00001;", 1, 14);
        due("we yield until 99999;", 1, 15);
        due("we yield if 12345 == 1;", 1, 12);
        due("we yield if 1 == 12345;", 1, 17);
        due("we yield if 1234567890123456789012 == 1;", 1, 12);
        due("1".repeat(2000), 1, 0);
    }

    /** "SIGNS ; + - * == != < <= ( )": each is one, where it may stand. */
    private static void signs() {
        fine("we yield if (1+2-3*4)==5 and 1!=2 and 1<2 and 1<=2;");
        for (String sign : new String[] {"=", "!", ">", ">=", "=>", "=<", "<>", "/", "%", "&", "|", ",", ".", ":", "[", "]", "^", "~"}) {
            due("we yield if 1 " + sign + " 1;", 1, sign.equals("<>") ? 15 : 14);
        }
    }

    /** "the longest that can be": two signs that are one TOKEN are never two. */
    private static void longestSigns() {
        due("we yield if 1<==1;", 1, 15);
        due("we yield if 1===1;", 1, 15);
        due("we yield if 1!==1;", 1, 15);
        due("we yield if 1<<1;", 1, 14);
        due("we yield if 1!!=1;", 1, 13);
        due("we yield if 1=!=1;", 1, 13);
        due("we yield if 1=<1;", 1, 13);
        House x = clashing();
        Due.is("read", x.readText("we yield if 1<=1 and 1<2;"), 0);
        Due.is("1<=1 is no <", x.rule(0, 0, 0, 0, 0, 0), 0);
    }

    /** "all else, is no TOKEN": every byte at the start of a text, with which no text goes on. */
    private static void allElse() {
        for (int b = 0; b < 256; b++) {
            if (b != 9 && b != 10 && b != 13 && b != 32) {
                due("" + (char) b, 1, 0);
                due("we yield; " + (char) b, 1, 10);
            }
            if (b != 9 && b != 10 && b != 13 && b != 32 && b != ';') {
                due("we yield " + (char) b, 1, 9);
            }
        }
    }

    /** "RULE: ('we' | 'they') 'yield' ['from' INT] ['until' INT] ['if' ..] ';'": each part once at most, and in this order. */
    private static void optionalParts() {
        fine("we yield;");
        fine("they yield;");
        fine("we yield from 1;");
        fine("we yield until 1;");
        fine("we yield if 1==1;");
        fine("we yield from 1 until 2;");
        fine("we yield from 1 if 1==1;");
        fine("we yield until 1 if 1==1;");
        fine("we yield from 1 until 2 if 1==1;");
        due("we yield from 1 from 2;", 1, 16);
        due("we yield until 1 until 2;", 1, 17);
        due("we yield until 2 from 1;", 1, 17);
        due("we yield if 1==1 if 1==1;", 1, 17);
        due("we yield if 1==1 from 1;", 1, 17);
        due("we yield if 1==1 until 1;", 1, 17);
        due("we yield from;", 1, 13);
        due("we yield until;", 1, 14);
        due("we yield if;", 1, 11);
        due("we yield if 1==1 and;", 1, 20);
        due("we yield and 1==1;", 1, 9);
        due("yield;", 1, 0);
        due("we;", 1, 2);
        due("we they yield;", 1, 3);
        due(";", 1, 0);
        due("we yield;;", 1, 9);
    }

    /** "{RULE}", "{'and' REL}", "{('+' | '-') PART}", "{'*' UNIT}": none, one and many. */
    private static void repeatedParts() {
        rules("", 0);
        rules(" ", 0);
        rules("we yield;", 1);
        rules("we yield;they yield;", 2);
        for (int many : new int[] {0, 1, 2, 90}) {
            fine("we yield if 1==1" + "and 1==1".repeat(many) + ";");
            fine("we yield if 1" + "+1".repeat(many) + "==1" + "-1".repeat(many) + ";");
            fine("we yield if 1" + "*1".repeat(many) + "==1" + "*1".repeat(many) + ";");
        }
        due("we yield if 1==1==1;", 1, 16);
        due("we yield if 1<1<1;", 1, 15);
        due("we yield if 1;", 1, 13);
        due("we yield if (1==1);", 1, 14);
        due("we yield if (1)(1)==1;", 1, 15);
        due("we yield if ()==1;", 1, 13);
        due("we yield if (1==1;", 1, 14);
        due("we yield if 1)==1;", 1, 13);
        due("we yield if 1==(1;", 1, 17);
        due("we yield if 1==1);", 1, 16);
    }

    /** "(a byte; the text's end: its length)": every text that stops ahead of its end. */
    private static void textsEnd() {
        String whole = "we yield from 1 until 2 if ( band + 1 ) * 2 == hour - 3 and day != 4 ;";
        fine(whole);
        String start = "";
        for (String token : whole.split(" ")) {
            if (!start.isEmpty()) {
                due(start, 1, start.length());
                due(start + "\n ", 1, start.length() + 2);
            }
            start = start + (start.isEmpty() ? "" : " ") + token;
        }
        due("we yield; they", 1, 14);
    }

    /** "FAULTS, the first by its place": SYNTAX and ROOM, whichever comes first. */
    private static void firstByPlace() {
        due("we yield;".repeat(20) + "we yield # ;", 2, 180);
        due("we yield;".repeat(19) + "we # yield; we yield;", 1, 174);
        due("we yield if (((((((#", 2, 18);
        due("we yield if ((((((#(", 1, 18);
        due("# $", 1, 0);
        due("we yield #; we yield $;", 1, 9);
        due(almost() + "+1#", 2, almost().length() + 1);
        due(almost().replace("==", "=#"), 1, almost().indexOf("=="));
    }

    /** "of one place the least": what no text goes on with is SYNTAX, though it were too much, too. */
    private static void leastOfOnePlace() {
        due("we yield;".repeat(20) + "yield", 1, 180);
        due("we yield;".repeat(20) + "#", 1, 180);
        due("we yield;".repeat(20) + ";", 1, 180);
        due("we yield if ((((((1 (", 1, 20);
        due("we yield if ((((((1(", 1, 19);
        due(almost() + "+;", 1, almost().length() + 1);
        due(almost() + "+#", 1, almost().length() + 1);
        due(almost() + "+12345", 1, almost().length() + 1);
        due(almost() + "+", 1, almost().length() + 1);
    }

    /** 399 TOKENS: the 400th may be a ; with which the text ends, or a sign behind which it goes on. */
    private static String almost() {
        return "we yield;we yield if 1==1" + "+1".repeat(195);
    }

    /** "a 401st TOKEN". */
    private static void tokensAtMost() {
        String most = almost();
        int end = most.length();
        rules(most + ";", 2);
        rules(most + " ; \n\t\r ", 2);
        due(most, 1, end);
        due(most + "+", 1, end + 1);
        due(most + "+1", 2, end + 1);
        due(most + "+1;", 2, end + 1);
        due(most + "+  1;", 2, end + 3);
        due(most + ";we", 2, end + 1);
        due(most + "; they yield;", 2, end + 2);
        due(most + "+band;", 2, end + 1);
        due(most + "+(1);", 2, end + 1);
        due(most + ";#", 1, end + 1);
        due(most + "; ;", 1, end + 2);
        String deep = "we yield;we yield if 1==1" + "*(1)".repeat(97) + "*1";
        rules(deep + ";", 2);
        due(deep + "*1;", 2, deep.length() + 1);
        fine("we yield if 1==1" + " and 1==1".repeat(98) + ";");
        due("we yield if 1==1" + " and 1==1".repeat(99) + ";", 2, 16 + 9 * 98 + 6);
    }

    /** "a 21st RULE (at its first TOKEN)". */
    private static void rulesAtMost() {
        String twenty = "we yield;they yield;".repeat(10);
        int end = twenty.length();
        rules(twenty, 20);
        rules(twenty + " \n", 20);
        rules("we yield;".repeat(19), 19);
        due(twenty + "we yield;", 2, end);
        due(twenty + "they yield;", 2, end);
        due(twenty + "  we yield;", 2, end + 2);
        due(twenty + "we", 2, end);
        due(twenty + "they #", 2, end);
        due(twenty + "wex", 1, end);
        rules("we yield from 1 until 2 if band == 1;".repeat(20), 20);
    }

    /** "a 7th ( within one another (at it)". */
    private static void nestedAtMost() {
        for (int deep = 1; deep <= 6; deep++) {
            fine("we yield if " + "(".repeat(deep) + "1" + ")".repeat(deep) + "==1;");
            fine("we yield if 1==" + "(".repeat(deep) + "1" + ")".repeat(deep) + ";");
            fine("we yield if 1==" + "2*(1+".repeat(deep) + "1" + ")".repeat(deep) + ";");
        }
        for (int deep = 7; deep <= 9; deep++) {
            due("we yield if " + "(".repeat(deep) + "1" + ")".repeat(deep) + "==1;", 2, 18);
            due("we yield if 1==" + "(".repeat(deep) + "1" + ")".repeat(deep) + ";", 2, 21);
            due("we yield if 1==" + "2*(1+".repeat(deep) + "1" + ")".repeat(deep) + ";", 2, 15 + 5 * 6 + 2);
        }
        due("we yield if (((((((", 2, 18);
        due("we yield if ((((((", 1, 18);
    }

    /** "a 7th ( within one another": one that is closed does not count. */
    private static void nestedAnew() {
        fine("we yield if " + "(1)+".repeat(20) + "1==1;");
        fine("we yield if ((((((1))))))+((((((1))))))==((((((1)))))) and ((((((1))))))<2;");
        rules("we yield if ((((((1))))))==1;".repeat(3), 3);
        fine("we yield if (((((1)+(2)))))==1;");
        fine("we yield if ((((((1)+(2))+(3)))))==1;");
        due("we yield if ((((((1)+((2))))))) == 1;", 2, 22);
        due("we yield if ((((((1))))))+(((((((1)))))))==1;", 2, 32);
    }

    /** "5 WRONG: at the INT behind until, if it is not above from's". */
    private static void wrongUntil() {
        fine("we yield from 5 until 6;");
        due("we yield from 5 until 5;", 5, 22);
        due("we yield from 5 until 4;", 5, 22);
        due("we yield from 0 until 0;", 5, 22);
        fine("we yield from 0 until 1;");
        fine("we yield from 9998 until 9999;");
        due("we yield from 9999 until 9999;", 5, 25);
        due("we yield from 5 until   0005;", 5, 24);
        fine("we yield from 9 until 10;");
        due("we yield from 10 until 9;", 5, 23);
        due("we yield from 6 until 5 if 1==1;", 5, 22);
    }

    /** "(0 without)". */
    private static void wrongWithoutFrom() {
        due("we yield until 0;", 5, 15);
        due("we yield until 0000;", 5, 15);
        fine("we yield until 1;");
        rules("we yield from 5; we yield until 1;", 2);
        due("we yield from 5; we yield until 0;", 5, 32);
    }

    /** "If there is none: 5 WRONG": SYNTAX and ROOM behind it go ahead. */
    private static void wrongOnlyWithoutOthers() {
        due("we yield until 0", 1, 16);
        due("we yield until 0 #", 1, 17);
        due("we yield until 0; we", 1, 20);
        due("we yield until 0;" + "we yield;".repeat(20), 2, 17 + 19 * 9);
        due("we yield until 0 if (((((((1)))))))==1;", 2, 26);
        String most = "we yield until 0;we yield if 1==1" + "+1".repeat(194);
        due(most + ";", 5, 15);
        due(most + "+1;", 2, most.length() + 1);
    }

    /** "likewise": of some WRONG ones the first by its place. */
    private static void firstWrong() {
        due("we yield until 0; we yield until 0;", 5, 15);
        due("we yield until 1; we yield until 0; we yield from 3 until 3;", 5, 33);
        due("we yield;".repeat(19) + "they yield from 9 until 8;", 5, 9 * 19 + 24);
    }

    /** LAND 0, SITE 0, MAST 0, and a NOTICE at all HOURS of all DAYS on BAND 0. */
    private static House clashing() {
        House x = States.small();
        x.notice(0, 0, 24, 0, 0);
        return x;
    }

    /** "A text with a FAULT changes nothing". */
    private static void faultChangesNothing() {
        String[] faults = {"we yield; we yield; we", "we yield;".repeat(21), "we yield; we yield until 0;", "#", "they yield if (((((((1",
            "they yield if 1 == 2; they yield if 3 == 4; they yield from 1 until 1;"};
        int[] due = {1, 2, 5, 1, 2, 5};
        for (int k = 0; k < faults.length; k++) {
            House x = clashing();
            x.readText("they yield if day != 1 and 2 * (3 + 4) == 14; we yield if day == 1;");
            Due.is("read() of '" + faults[k] + "'", x.readText(faults[k]), due[k]);
            Due.is("RULES as ahead", x.count(5), 2);
            Due.is("by RULE 0 as ahead", x.rule(0, 0, 0, 0, 0, 0), 0);
            Due.is("they yield as ahead", x.yields(0, 0, 0, 0, 0, 1), -1);
            Due.is("by RULE 1 as ahead", x.rule(0, 0, 0, 1, 0, 0), 1);
            Due.is("we yield as ahead", x.yields(0, 0, 0, 1, 0, 1), 0);
        }
    }

    /** "else it is in place of the one ahead": nothing of that is left. */
    private static void inPlaceOfTheOneAhead() {
        House x = clashing();
        x.readText("they yield if day == 0; they yield;");
        Due.is("they yield", x.yields(0, 0, 0, 0, 0, 1), -1);
        x.readText("we yield if day == 1;");
        Due.is("one RULE", x.count(5), 1);
        Due.is("by none", x.rule(0, 0, 0, 0, 0, 0), -1);
        Due.is("we yield", x.yields(0, 0, 0, 0, 0, 1), 0);
        x.readText("they yield;".repeat(20));
        Due.is("20 RULES", x.count(5), 20);
        x.readText("#");
        x.readText("we yield; they yield;");
        Due.is("two RULES", x.count(5), 2);
        Due.is("by the first", x.rule(0, 0, 0, 0, 0, 0), 0);
        Due.is("we yield", x.yields(0, 0, 0, 0, 0, 1), 0);
        x.readText("");
        Due.is("no RULE", x.count(5), 0);
        Due.is("by none", x.rule(0, 0, 0, 0, 0, 0), -1);
    }

    /** "The tape, which is empty then": of a text that stopped within brackets, signs or RULES nothing stays with the next one. */
    private static void readAnewBehindFaults() {
        String[] faults = {"we yield if 1+2*(3", "we yield if ((((((#", "we yield if 1-2*(3-4*(5-6*(", "they yield from 9", "they yield until 0;",
            "they yield if 1==1 and", "they yield if 1==2-", "they yield from 5 until 9 if (1", "we yield;".repeat(21), almost() + "+1"};
        for (String fault : faults) {
            House x = clashing();
            Due.is("a FAULT in '" + fault + "'", x.readText(fault) != 0, true);
            String text = "we yield if ((((((2))))))*3-1==5 and 1+2*(3+4)==15 and day!=1;they yield;";
            Due.is("read() behind '" + fault + "'", x.readText(text), 0);
            Due.is("place() behind '" + fault + "'", x.place(), -1);
            Due.is("RULES behind '" + fault + "'", x.count(5), 2);
            Due.is("RULE 0 behind '" + fault + "'", x.rule(0, 0, 0, 0, 0, 0), 0);
            Due.is("we yield behind '" + fault + "'", x.yields(0, 0, 0, 0, 0, 1), 0);
            Due.is("RULE 1 behind '" + fault + "'", x.rule(0, 0, 0, 1, 0, 0), 1);
            Due.is("they yield behind '" + fault + "'", x.yields(0, 0, 0, 1, 0, 1), -1);
            Due.is("400 TOKENS behind '" + fault + "'", x.readText(almost() + ";"), 0);
            Due.is("20 RULES behind '" + fault + "'", x.readText("we yield;".repeat(20)), 0);
        }
    }
}
