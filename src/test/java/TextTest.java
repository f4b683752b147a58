/** Promises 13 and 14: the tape, and texts with their faults. */
public final class TextTest {
    private static final Check CHECK = new Check();

    public static void main(String[] args) {
        feeding();
        tapeEnds();
        goodTexts();
        wrongTokens();
        tooLong();
        tooManyLines();
        tooDeep();
        theEnd();
        faultsLeaveTheTextAlone();
        CHECK.finish();
    }

    private static void feeding() {
        FairGround fair = new FairGround();
        CHECK.due("nothing", fair.feed(0, 0, 0), 0);
        CHECK.due("a's lowest byte", fair.feed('a', 0, 0), 1);
        CHECK.due("c's highest byte", fair.feed(0, 0, (long) 'a' << 56), 2);
        CHECK.due("10 and 32 and 126", fair.feed(10, 32, 126), 5);
        CHECK.due("9, 11, 31, 127", fair.feed(9L << 8 | 11, 31, 127), 5);
        CHECK.due("128 .. 255", fair.feed(-1, Long.MIN_VALUE, 0xa0b0c0d0e0f08090L), 5);
        CHECK.due("count(6)", fair.count(6), 5);
        CHECK.due("read: a word that can't stand there", fair.text(), 1);
        CHECK.due("the tape is empty then", fair.count(6), 0);

        FairGround row = new FairGround();
        Check.feed(row, "keep when 1; lapse when ");
        CHECK.due("signs come behind, the highest first", Check.feed(row, "0;"), 26);
        CHECK.due("text", row.text(), 0);
        CHECK.due("lines", row.count(5), 2);
    }

    private static void tapeEnds() {
        FairGround fair = new FairGround();
        long blanks = Check.eight("        ", 0);
        for (int n = 1; n <= 24; n++) {
            CHECK.due("feed " + n, fair.feed(blanks, blanks, blanks), 24 * n);
        }
        CHECK.due("588 with 12 letters", Check.feed(fair, "keep when 1;"), 588);
        CHECK.due("600, the rest is left out", Check.feed(fair, "keep when 2;keep"), 600);
        CHECK.due("full", Check.feed(fair, "x"), 600);
        CHECK.due("read", fair.text(), 0);
        CHECK.due("lines", fair.count(5), 2);
        CHECK.due("empty", fair.count(6), 0);
        CHECK.due("feed anew", Check.feed(fair, "x"), 1);

        FairGround signs = new FairGround();
        StringBuilder longest = new StringBuilder("keep when 1");
        while (longest.length() < 597) {
            longest.append("+1");
        }
        longest.append("  ;");
        CHECK.due("600 signs", Check.text(signs, longest.substring(0, 599) + ";"), 0);
        CHECK.due("one line", signs.count(5), 1);
    }

    private static void good(String text, int lines) {
        FairGround fair = new FairGround();
        CHECK.due("good: " + text, Check.text(fair, text), 0);
        CHECK.due("lines: " + text, fair.count(5), lines);
    }

    private static void bad(String text, int kind, int place) {
        FairGround fair = new FairGround();
        CHECK.due("fault: " + text, Check.text(fair, text), kind + 16 * place);
        CHECK.due("no lines: " + text, fair.count(5), 0);
        CHECK.due("the tape is taken: " + text, fair.count(6), 0);
    }

    private static void goodTexts() {
        good("", 0);
        good(" \n ", 0);
        good("keep when 1;", 1);
        good("lapse when missed;", 1);
        good("keep\nwhen\n1\n;\n", 1);
        good("keep when 1and 2;", 1);
        good("keep when 1 and2;", 1);
        good("keep when 12and 0012;", 1);
        good("keep when(1)<(2)and(held+missed-sick)=rank+area-year;lapse when 0;", 2);
        good("keep when(1<2)<(3=4);", 1);
        good("keep when 1 and 2 and 3;", 1);
        good("keep when ((((1))));", 1);
    }

    private static void wrongTokens() {
        bad("1", 1, 0);
        bad("  when", 1, 2);
        bad("Keep when 1;", 1, 0);
        bad("keep keep 1;", 1, 5);
        bad("keep when when;", 1, 10);
        bad("keep when and;", 1, 10);
        bad("keep when ;", 1, 10);
        bad("keep when -1;", 1, 10);
        bad("keep when 1 2;", 1, 12);
        bad("keep when 1 held;", 1, 12);
        bad("keep when 1);", 1, 11);
        bad("keep when ();", 1, 11);
        bad("keep when (1;", 1, 12);
        bad("keep when (1 keep", 1, 13);
        bad("keep when 1 < ;", 1, 14);
        bad("keep when 1 = 2 = 3;", 1, 16);
        bad("keep when 1 = 2 < 3;", 1, 16);
        bad("keep when 1 < = 3;", 1, 14);
        bad("keep when 1 + + 3;", 1, 14);
        bad("keep when 1 and;", 1, 15);
        bad("keep when 1;;", 1, 12);
        bad("keep when 1; held", 1, 13);
        bad("keep when lapse;", 1, 10);
        bad("keep when power;", 1, 10);
        bad("keep when 1 > 2;", 1, 12);
        bad("keep when 1 * 2;", 1, 12);
        bad("keep when 1 _", 1, 12);
        // "h" is a word in front of "E", and wrong first.
        bad("keep when hEld;", 1, 10);
        bad("keepwhen 1;", 1, 0);
        bad("~", 1, 0);
    }

    private static void tooLong() {
        bad("keep when 10000;", 1, 10);
        bad("keep when 00001;", 1, 10);
        bad("keep when 1 + 123456789012345678901234567890;", 1, 14);
        good("keep when 9999;", 1);
        bad("keepwhenn", 1, 0);
        bad("keep when heldheldheld;", 1, 10);
        bad("keep when 1 andandandand 2;", 1, 12);
        bad("keep when 1 + heldmissed", 1, 14);
    }

    private static void tooManyLines() {
        StringBuilder lines = new StringBuilder();
        for (int n = 0; n < 16; n++) {
            lines.append("keep when ").append(n).append(";");
        }
        String sixteen = lines.toString();
        good(sixteen, 16);
        good(sixteen + " \n", 16);
        bad(sixteen + "keep when 1;", 5, sixteen.length());
        bad(sixteen + "  lapse", 5, sixteen.length() + 2);
        bad(sixteen + " held", 1, sixteen.length() + 1);
        bad(sixteen + ";", 1, sixteen.length());
        bad(sixteen + "keepkeepkeep", 1, sixteen.length());
        bad("held" + sixteen + "keep", 1, 0);
    }

    private static void tooDeep() {
        good("keep when ((((held))));", 1);
        bad("keep when (((((1)))));", 5, 15);
        bad("keep when (((((held", 5, 15);
        bad("keep when ((((((((", 5, 15);
        bad("keep when (((((;", 1, 15);
        bad("keep when ((((()", 1, 15);
        bad("keep when (((((-", 1, 15);
        bad("keep when (((((and", 1, 15);
        bad("keep when (((((12345", 1, 15);
        bad("keep when (((((", 1, 15);
        bad("keep when ((((1+(2))));", 5, 17);
        good("keep when ((((1))))+((((2))))<((((3)))) and ((((4))));", 1);
        good("keep when (((1)+(2))<(3)) and (((4)));", 1);
    }

    private static void theEnd() {
        bad("keep", 1, 4);
        bad("keep ", 1, 5);
        bad("keep when", 1, 9);
        bad("keep when 1", 1, 11);
        bad("keep when 1 \n ", 1, 14);
        bad("keep when (1", 1, 12);
        bad("keep when 1 +", 1, 13);
        bad("keep when 1; lapse", 1, 18);
    }

    private static void faultsLeaveTheTextAlone() {
        FairGround fair = new FairGround();
        fair.ride(1, 1, 0, 0, 0);
        fair.lay(0, 5, 5, false);
        fair.end();
        CHECK.due("a text", Check.text(fair, "lapse when missed = 2; keep when 1;"), 0);
        CHECK.due("a faulty one", Check.text(fair, "lapse when 1; lapse"), 1 + 16 * 19);
        CHECK.due("the lines are there", fair.count(5), 2);
        CHECK.due("and in force", fair.end(), 0);
        CHECK.due("and in force", fair.end(), 1);
        CHECK.due("an empty one", fair.text(), 0);
        CHECK.due("in its place", fair.count(5), 0);
    }
}
