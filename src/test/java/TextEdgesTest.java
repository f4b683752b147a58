/** Promises 13 and 14: the boundary cases of feed and text, sentence by sentence. */
public final class TextEdgesTest {
    private static final Check CHECK = new Check();

    public static void main(String[] args) {
        feedEverySign();
        feedEveryByteOfALong();
        feedHighestFirst();
        feedNothing();
        feedUpTo600();
        feedKeepsTheFirst600();
        feedLeftOutTakesNoRoom();
        textTakesTheTape();
        textEmpty();
        textInPlaceOfTheOneThereWas();
        textSaysNothingOfOlderOnes();
        textOf600Signs();
        textOf600SignsAgainAndAgain();
        textOf600Tokens();
        textSixteenLines();
        textPartsWithinOneAnother();
        textWords();
        textWordsByEachLetter();
        textNumbers();
        textBlanks();
        textSignsBehindAPart();
        textTokensThatCannotStand();
        textTheEnd();
        textTheFirstWrongToken();
        CHECK.finish();
    }

    private static void good(String text, int lines) {
        FairGround fair = new FairGround();
        CHECK.due("text of " + text, Check.text(fair, text), 0);
        CHECK.due("lines of " + text, fair.count(5), lines);
        CHECK.due("tape behind " + text, fair.count(6), 0);
    }

    private static void bad(String text, int kind, int place) {
        FairGround fair = new FairGround();
        CHECK.due("text of " + text, Check.text(fair, text), kind + 16 * place);
        CHECK.due("lines of " + text, fair.count(5), 0);
        CHECK.due("tape behind " + text, fair.count(6), 0);
    }

    private static String lines(int count) {
        return "keep when 1;".repeat(count);
    }

    private static void feedEverySign() {
        CHECK.sentence("13 feed: others than 10 and 32 .. 126 are left out");
        FairGround fair = new FairGround();
        int due = 0;
        for (int sign = 0; sign < 256; sign++) {
            due += sign == 10 || sign >= 32 && sign <= 126 ? 1 : 0;
            CHECK.due("feed of " + sign, fair.feed(0, sign, 0), due);
        }
        CHECK.due("signs on the TAPE", fair.count(6), 96);
    }

    private static void feedEveryByteOfALong() {
        CHECK.sentence("13 feed: up to 24 signs: the bytes of a, b, c");
        FairGround fair = new FairGround();
        for (int n = 0; n < 8; n++) {
            long sign = (long) 'x' << 8 * n;
            CHECK.due("byte " + n + " of a", fair.feed(sign, 0, 0), 3 * n + 1);
            CHECK.due("byte " + n + " of b", fair.feed(0, sign, 0), 3 * n + 2);
            CHECK.due("byte " + n + " of c", fair.feed(0, 0, sign), 3 * n + 3);
        }
        long eight = Check.eight("xxxxxxxx", 0);
        CHECK.due("all at once", fair.feed(eight, eight, eight), 48);
    }

    private static void feedHighestFirst() {
        CHECK.sentence("13 feed: behind the TAPE, a, b, c, of each the highest first");
        FairGround fair = new FairGround();
        CHECK.due("keep", fair.feed(0x6b656570L, 0, 0), 4);
        CHECK.due("when", fair.feed(0x2077686500000000L, 0x6e20L, 0x313b000000000000L), 12);
        CHECK.due("keep when 1;", fair.text(), 0);
        CHECK.due("lines", fair.count(5), 1);
        // Bytes from 128 on, above and below signs, change nothing in their order.
        CHECK.due("lapse", fair.feed(0xff6c80616170ff73L, 0x8065000000000000L, 0), 6);
        CHECK.due("laapse", fair.text(), 1);
        CHECK.due("lapse", fair.feed(0xff6c8061ff70ff73L, 0x8065000000000000L, 0), 5);
        CHECK.due("lapse, and no more", fair.text(), 1 + 16 * 5);
    }

    private static void feedNothing() {
        CHECK.sentence("13 feed: how many there are");
        FairGround fair = new FairGround();
        CHECK.due("none", fair.feed(0, 0, 0), 0);
        CHECK.due("one", fair.feed(0, 0, 'x'), 1);
        CHECK.due("still one", fair.feed(0, 0, 0), 1);
        CHECK.due("count(6)", fair.count(6), 1);
    }

    private static FairGround fed(int signs) {
        FairGround fair = new FairGround();
        CHECK.due("fed", Check.feed(fair, " ".repeat(signs)), signs);
        return fair;
    }

    private static void feedUpTo600() {
        CHECK.sentence("13 feed: what is beyond 600 is left out");
        int[][] fedAndDue = {{575, 599}, {576, 600}, {577, 600}, {599, 600}, {600, 600}};
        long eight = Check.eight("        ", 0);
        for (int[] n : fedAndDue) {
            FairGround fair = fed(n[0]);
            CHECK.due("24 behind " + n[0], fair.feed(eight, eight, eight), n[1]);
            CHECK.due("count(6)", fair.count(6), n[1]);
        }
    }

    private static void feedKeepsTheFirst600() {
        CHECK.sentence("13 feed: what is beyond 600 is left out, not what was there");
        FairGround fair = fed(588);
        CHECK.due("12 signs fit, 12 do not", Check.feed(fair, "keep when 1;lapse when x"), 600);
        CHECK.due("text()", fair.text(), 0);
        CHECK.due("lines", fair.count(5), 1);
        CHECK.due("the TAPE has room again", Check.feed(fair, "keep when 1;"), 12);
        FairGround cut = fed(595);
        CHECK.due("five signs of a word", Check.feed(cut, "lapses"), 600);
        CHECK.due("lapse, and the end", cut.text(), 1 + 16 * 600);
    }

    private static void feedLeftOutTakesNoRoom() {
        CHECK.sentence("13 feed: signs that are left out take no room");
        FairGround fair = fed(588);
        CHECK.due("0 .. 0 keep", fair.feed(0x6b006500650070L, 0x0020770068006500L, 0xff6eff20ff31ff3bL), 600);
        CHECK.due("text()", fair.text(), 0);
        CHECK.due("lines", fair.count(5), 1);
    }

    private static void textTakesTheTape() {
        CHECK.sentence("what reads the TAPE takes it: it is empty then");
        FairGround fair = new FairGround();
        CHECK.due("good", Check.text(fair, "keep when 1;"), 0);
        CHECK.due("signs", fair.count(6), 0);
        CHECK.due("faulty", Check.text(fair, "keep when"), 1 + 16 * 9);
        CHECK.due("signs", fair.count(6), 0);
        CHECK.due("the next stands for itself", Check.text(fair, "lapse when 2; keep when 1;"), 0);
        CHECK.due("lines", fair.count(5), 2);
    }

    private static void textEmpty() {
        CHECK.sentence("14 text: an empty TAPE, and one of blanks, is a TEXT without a line");
        good("", 0);
        good(" ", 0);
        good("\n", 0);
        good(" \n\n  ".repeat(120), 0);
    }

    private static void textInPlaceOfTheOneThereWas() {
        CHECK.sentence("14 text: in place of the one there was");
        FairGround fair = new FairGround();
        fair.ride(1, 1, 0, 0, 0);
        fair.lay(0, 5, 5, false);
        fair.end();
        CHECK.due("16 lines", Check.text(fair, "lapse when 1;".repeat(16)), 0);
        CHECK.due("lines", fair.count(5), 16);
        CHECK.due("one line", Check.text(fair, "lapse when missed = 3;"), 0);
        CHECK.due("lines", fair.count(5), 1);
        CHECK.due("the old ones say nothing", fair.end(), 0);
        CHECK.due("none", fair.text(), 0);
        CHECK.due("lines", fair.count(5), 0);
        CHECK.due("missed twice", fair.end(), 0);
        CHECK.due("missed three times", fair.end(), 0);
        CHECK.sentence("14 text: a FAULT is no TEXT: the one there was stays");
        CHECK.due("a text", Check.text(fair, "keep when missed = 4; lapse when 1;"), 0);
        CHECK.due("a faulty one", Check.text(fair, "lapse when 1; lapse when 1; lapse when 1; keep"), 1 + 16 * 46);
        CHECK.due("lines", fair.count(5), 2);
        CHECK.due("kept", fair.end(), 0);
        CHECK.due("lapsed", fair.end(), 1);
    }

    /** Whether a right lapses by the last of these texts. */
    private static int lapsedBy(String... texts) {
        FairGround fair = new FairGround();
        fair.ride(1, 1, 0, 0, 0);
        fair.lay(0, 5, 5, false);
        fair.end();
        for (String text : texts) {
            CHECK.due("text of " + text, Check.text(fair, text), 0);
        }
        return fair.end();
    }

    private static void textSaysNothingOfOlderOnes() {
        CHECK.sentence("14 text: in place of the one there was, and of all before it");
        String[] olds = {"keep when 0; lapse when 1;", "lapse when 0+1+1+1;", "lapse when 1;".repeat(16),
            "lapse when 1+(1+(1+(1+1)));"};
        String[] news = {"", "lapse when 0;", "keep when 0 - 5 + 5;", "keep when 1 < 1; lapse when 0;"};
        for (String old : olds) {
            for (String text : news) {
                CHECK.due(old + " then " + text, lapsedBy(old, text), 0);
                CHECK.due(old + " and another, then " + text, lapsedBy(old, "keep when 1;", text), 0);
                CHECK.due(old + " twice, then " + text, lapsedBy(old, old, text), 0);
            }
        }
    }

    private static void textOf600Signs() {
        CHECK.sentence("TEXT: as long as the TAPE: 600 signs");
        String sum = "keep when 1" + "+1".repeat(294);
        good(sum + ";", 1);
        bad(sum + " ", 1, 600);
        bad(sum + "+", 1, 600);
        bad(sum + ")", 1, 599);
        bad(sum + "1+;", 1, 600);
        FairGround fair = new FairGround();
        fair.ride(1, 1, 0, 0, 0);
        fair.lay(0, 5, 5, false);
        fair.end();
        // 1 and 292 times 1, less 293: all of it is read.
        CHECK.due("text", Check.text(fair, "lapse when 1" + "+1".repeat(291) + "-292;"), 0);
        CHECK.due("0", fair.end(), 0);
        CHECK.due("text", Check.text(fair, "lapse when 1" + "+1".repeat(291) + "-291;"), 0);
        CHECK.due("1", fair.end(), 1);
    }

    private static void textOf600SignsAgainAndAgain() {
        CHECK.sentence("TEXT: each is read like the first");
        String sum = "lapse when 1" + "-0".repeat(293) + ";";
        String none = "lapse when 1" + "-0".repeat(292) + "-1;";
        CHECK.due("six times", lapsedBy(sum, sum, sum, sum, sum, sum), 1);
        CHECK.due("six times", lapsedBy(sum, sum, sum, sum, sum, none), 0);
    }

    private static void textOf600Tokens() {
        CHECK.sentence("TEXT: as many tokens as the TAPE has signs");
        for (String token : new String[] {"(", ")", "+", ";", "*", "="}) {
            bad(token.repeat(600), 1, 0);
        }
        bad("keep when " + "(".repeat(590), 5, 15);
        bad("keep when 1;" + ";".repeat(588), 1, 12);
    }

    private static void textSixteenLines() {
        CHECK.sentence("TEXT: 16 lines at most; 5 a 17th line (at its first token)");
        good(lines(1), 1);
        good(lines(16), 16);
        good(lines(16) + "\n ", 16);
        bad(lines(17), 5, 16 * 12);
        bad(lines(16) + " \n lapse when 1;", 5, 16 * 12 + 3);
        bad(lines(16) + "keep", 5, 16 * 12);
        bad(lines(18), 5, 16 * 12);
        CHECK.sentence("FAULTS: of the first wrong token the least: 1 it can't stand there");
        bad(lines(16) + "when", 1, 16 * 12);
        bad(lines(16) + ";", 1, 16 * 12);
        bad(lines(16) + "*", 1, 16 * 12);
        bad(lines(16) + "7", 1, 16 * 12);
        CHECK.sentence("FAULTS: a fault ahead of the 17th line counts first");
        bad("keep when 1" + lines(16), 1, 11);
        bad(lines(15) + "keep when 1 " + lines(1), 1, 15 * 12 + 12);
    }

    private static String within(int depth, String part) {
        return "(".repeat(depth) + part + ")".repeat(depth);
    }

    private static void textPartsWithinOneAnother() {
        CHECK.sentence("PART: 5 within one another; 5 a PART within 5 others");
        for (String part : new String[] {"1", "missed", "held", "sick", "rank", "area", "year"}) {
            good("keep when " + within(4, part) + ";", 1);
            bad("keep when " + within(5, part) + ";", 5, 15);
            bad("keep when " + within(6, part) + ";", 5, 15);
        }
        bad("keep when " + "(".repeat(500), 5, 15);
        good("keep when " + within(4, "1+2-3") + " and " + within(4, "1<2") + "+" + within(4, "1 and 2") + ";", 1);
        bad("keep when 1+2<3 and 4-" + within(5, "1") + ";", 5, 27);
        bad("keep when (1)+((2)<(3+(4-(5 and (6)))));", 5, 33);
        good("keep when (1)+((2)<(3+(4-5 and 6)));", 1);
        CHECK.sentence("FAULTS: of the first wrong token the least: 1 where no PART can stand");
        for (String token : new String[] {")", ";", "and", "when", "keep", "+", "-", "<", "=", "x", "12345", "*"}) {
            bad("keep when " + "(".repeat(5) + token, 1, 15);
        }
        bad("keep when " + "(".repeat(5), 1, 15);
    }

    private static void textWords() {
        CHECK.sentence("TOKENS: each as long as can be; WORDS, 8 letters at most; all else is none");
        bad("keepwhen 1;", 1, 0);
        bad("keep whenheld;", 1, 5);
        bad("keep when heldheld;", 1, 10);
        bad("keep when heldheldh;", 1, 10);
        bad("keep when held held;", 1, 15);
        bad("keep when missedheld;", 1, 10);
        bad("keep when 1 andheld;", 1, 12);
        bad("k eep when 1;", 1, 0);
        bad("kee", 1, 0);
        bad("keeps when 1;", 1, 0);
        bad("Keep when 1;", 1, 0);
        bad("keep When 1;", 1, 5);
        bad("keep when Held;", 1, 10);
        bad("keep when hel;", 1, 10);
        bad("x".repeat(600), 1, 0);
        bad("keep when " + "held".repeat(147), 1, 10);
    }

    private static void textWordsByEachLetter() {
        CHECK.sentence("TEXT: keep, lapse, when, and, missed, held, sick, rank, area, year, and no other WORD");
        String[][] aheadWordBehind = {{"", "keep", " when 1;"}, {"", "lapse", " when 1;"}, {"keep ", "when", " 1;"},
            {"keep when 1 ", "and", " 1;"}, {"keep when ", "missed", ";"}, {"keep when ", "held", ";"},
            {"keep when ", "sick", ";"}, {"keep when ", "rank", ";"}, {"keep when ", "area", ";"},
            {"keep when ", "year", ";"}};
        for (String[] w : aheadWordBehind) {
            String word = w[1];
            good(w[0] + word + w[2], 1);
            for (int n = 0; n < word.length(); n++) {
                bad(w[0] + word.substring(0, n) + "z" + word.substring(n + 1) + w[2], 1, w[0].length());
            }
            bad(w[0] + word.substring(1) + w[2], 1, w[0].length());
            bad(w[0] + word.substring(0, word.length() - 1) + w[2], 1, w[0].length());
            bad(w[0] + word + "s" + w[2], 1, w[0].length());
        }
        for (String other : new String[] {"or", "not", "power", "noise", "width", "height", "ride", "lit", "rate"}) {
            bad("keep when " + other + ";", 1, 10);
            bad("keep when 1 " + other + " 1;", 1, 12);
        }
    }

    private static void textNumbers() {
        CHECK.sentence("NUMBERS (1 to 4 digits; a letter may stand right behind)");
        good("keep when 0;", 1);
        good("keep when 9;", 1);
        good("keep when 0000;", 1);
        good("keep when 9999;", 1);
        bad("keep when 00000;", 1, 10);
        bad("keep when 10000;", 1, 10);
        bad("keep when 1+99999;", 1, 12);
        bad("keep when " + "1".repeat(590), 1, 10);
        bad("keep when 1234 5;", 1, 15);
        good("keep when 1and 2and 3333and held;", 1);
        bad("keep when 1held;", 1, 11);
        bad("keep when 12345and 1;", 1, 10);
        good("keep when 1 and2;", 1);
        bad("keep when held2;", 1, 14);
        bad("keep2", 1, 4);
    }

    private static void textBlanks() {
        CHECK.sentence("blanks (10, 32) between where one likes");
        good("keep\nwhen\n1\n;", 1);
        good("\n \nkeep \n when(\n1 )+ held<2and 3=4 ;\n\n", 1);
        good("keep when(1)and(2)<(3)-missed;lapse when(sick);", 2);
        bad("keep when 1 2;", 1, 12);
        bad("keep when 1\n2;", 1, 12);
        bad("\n\nlapse\n\nkeep", 1, 9);
    }

    private static void textSignsBehindAPart() {
        CHECK.sentence("the signs ( ) < = + - and the semicolon; all else is none");
        for (int sign = 33; sign <= 126; sign++) {
            String text = "keep when 1 " + (char) sign;
            if (sign == ';') {
                good(text, 1);
            } else {
                boolean goesOn = "<=+-".indexOf(sign) >= 0;
                bad(text, 1, goesOn ? 13 : 12);
            }
        }
        for (int sign = 33; sign <= 126; sign++) {
            boolean goesOn = "(0123456789".indexOf(sign) >= 0;
            bad("keep when " + (char) sign, 1, goesOn ? 11 : 10);
        }
    }

    private static void textTokensThatCannotStand() {
        CHECK.sentence("FAULTS: 1 it can't stand there");
        String[] tokens = {"keep", "lapse", "when", "and", "missed", "7", "(", ")", "<", "=", "+", "-", ";"};
        String starts = "keep lapse";
        String parts = "missed 7 (";
        for (String token : tokens) {
            stands("", token, starts.contains(token));
            stands("keep ", token, token.equals("when"));
            stands("keep when ", token, parts.contains(token));
            stands("keep when held + ", token, parts.contains(token));
            stands("keep when held - ", token, parts.contains(token));
            stands("keep when held < ", token, parts.contains(token));
            stands("keep when held = ", token, parts.contains(token));
            stands("keep when held and ", token, parts.contains(token));
            stands("keep when ( ", token, parts.contains(token));
            stands("keep when held ", token, "and < = + - ;".contains(token));
            stands("keep when (held ", token, "and < = + - )".contains(token));
            stands("keep when held < 1 ", token, "and + - ;".contains(token));
            stands("keep when held = 1 ", token, "and + - ;".contains(token));
            stands("keep when (held = 1 ", token, "and + - )".contains(token));
            stands("keep when held = 1 and 2 ", token, "and < = + - ;".contains(token));
            stands("keep when (held) ", token, "and < = + - ;".contains(token));
            stands("keep when (1 < 2) ", token, "and < = + - ;".contains(token));
            stands("keep when 1 ; ", token, starts.contains(token));
        }
    }

    /** A token that stands leaves the end, or nothing, wrong; it never stands there itself. */
    private static void stands(String ahead, String token, boolean can) {
        int fault = Check.text(new FairGround(), ahead + token);
        if (can) {
            boolean whole = token.equals(";");
            CHECK.due("text of " + ahead + token, fault, whole ? 0 : 1 + 16 * (ahead.length() + token.length()));
        } else {
            CHECK.due("text of " + ahead + token, fault, 1 + 16 * ahead.length());
        }
    }

    private static void textTheEnd() {
        CHECK.sentence("FAULTS: the end being a token at the text's length");
        String whole = "keep when ( 1 + 2 ) < 3 and held ;";
        for (int length = 1; length < whole.length(); length++) {
            String part = whole.substring(0, length);
            boolean cutsAWord = length < 4 || length > 5 && length < 9 || length > 24 && length < 27
                    || length > 28 && length < 32;
            int place = length < 4 ? 0 : length < 9 ? 5 : length < 27 ? 24 : 28;
            bad(part, 1, cutsAWord ? place : length);
        }
        good(whole, 1);
        bad("keep \n ", 1, 7);
    }

    private static void textTheFirstWrongToken() {
        CHECK.sentence("FAULTS: of the first token from the left that is wrong");
        bad("keep when 1 * 2 * 3", 1, 12);
        bad("keep 12345 (((((((", 1, 5);
        bad("keep when (((((1))))) 12345", 5, 15);
        bad("keep when 12345 (((((1", 1, 10);
        bad("lapse when 1; when 2; 12345", 1, 14);
    }
}
