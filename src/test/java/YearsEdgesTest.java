/** Promises 9 to 12: the boundary cases of orders, order, sick and end, sentence by sentence. */
public final class YearsEdgesTest {
    private static final Check CHECK = new Check();

    public static void main(String[] args) {
        ordersOfNobody();
        ordersOfOneToTen();
        orderNoneSuch();
        orderByLeastNumber();
        sickNoneSuch();
        sickOnceAYear();
        sickNotWhileItLies();
        endOfAnEmptyGreen();
        endForThoseThatLie();
        endForThoseThatMiss();
        endWithoutARight();
        endWithoutALineThatHolds();
        endLapses();
        endLapsesOfAll();
        endTellsTheTextThisYear();
        endNobodyLiesNobodyIsSick();
        endRightToTheFirstPlace();
        CHECK.finish();
    }

    private static FairGround withRides(int count) {
        FairGround fair = new FairGround();
        for (int n = 0; n < count; n++) {
            fair.ride(1, 1, 0, 0, 9 - n);
        }
        return fair;
    }

    private static void ordersOfNobody() {
        CHECK.sentence("9 orders: nobody lies: the empty row is one");
        FairGround fair = new FairGround();
        CHECK.due("no rides", fair.orders(), 1);
        fair.ride(1, 1, 0, 0, 0);
        CHECK.due("one that does not lie", fair.orders(), 1);
        fair.lay(0, 5, 5, false);
        fair.end();
        CHECK.due("a new YEAR", fair.orders(), 1);
    }

    private static void ordersOfOneToTen() {
        CHECK.sentence("9 orders: rows of all RIDES that lie");
        FairGround fair = withRides(10);
        int[] due = {1, 2, 6, 24, 120, 720, 5040, 40320, 362880, 3628800};
        for (int n = 9; n >= 0; n--) {
            CHECK.yes("lay " + n, fair.lay(n, n + 1, 3, false));
            CHECK.due("orders()", fair.orders(), due[9 - n]);
        }
        fair.take(4);
        CHECK.due("nine again", fair.orders(), 362880);
    }

    private static void orderNoneSuch() {
        CHECK.sentence("10 order: NONE: none such");
        FairGround fair = withRides(10);
        CHECK.due("nobody lies", fair.order(0), -1);
        for (int n = 0; n < 10; n++) {
            CHECK.due("order(" + n + ")", fair.order(n), -1);
            fair.lay(n, n + 1, 3, false);
            CHECK.due("order(" + n + ")", fair.order(n), n);
            CHECK.due("order(0)", fair.order(0), 0);
        }
        for (int i : new int[] {-1, 10, 11, Integer.MIN_VALUE, Integer.MAX_VALUE}) {
            CHECK.due("order(" + i + ")", fair.order(i), -1);
        }
    }

    private static void orderByLeastNumber() {
        CHECK.sentence("10 order: whose first RIDE has the least number, then the second");
        FairGround fair = withRides(10);
        int[] laid = {7, 2, 9, 4};
        for (int n : laid) {
            CHECK.yes("lay " + n, fair.lay(n, n + 1, 3, false));
        }
        int[] due = {2, 4, 7, 9, -1};
        for (int i = 0; i < due.length; i++) {
            CHECK.due("order(" + i + ")", fair.order(i), due[i]);
        }
    }

    private static void sickNoneSuch() {
        CHECK.sentence("11 sick: false: none such");
        FairGround fair = new FairGround();
        CHECK.no("no rides", fair.sick(0));
        for (int n = 0; n < 10; n++) {
            CHECK.no("not yet", fair.sick(n));
            fair.ride(1, 1, 0, 0, 0);
            CHECK.yes("sick(" + n + ")", fair.sick(n));
        }
        CHECK.no("sick(10)", fair.sick(10));
        CHECK.no("sick(-1)", fair.sick(-1));
    }

    private static void sickOnceAYear() {
        CHECK.sentence("11 sick: false: it is; true in another YEAR");
        FairGround fair = withRides(2);
        for (int year = 0; year < 3; year++) {
            CHECK.yes("sick", fair.sick(0));
            CHECK.no("it is", fair.sick(0));
            CHECK.yes("the other", fair.sick(1));
            fair.end();
        }
    }

    private static void sickNotWhileItLies() {
        CHECK.sentence("11 sick: false: it lies");
        FairGround fair = withRides(1);
        fair.lay(0, 5, 5, false);
        fair.end();
        fair.lay(0, 5, 5, false);
        CHECK.no("it lies", fair.sick(0));
        fair.take(0);
        Check.text(fair, "lapse when sick;");
        CHECK.due("nor did it fall sick by that", fair.end(), 0);
        fair.lay(0, 5, 5, false);
        fair.take(0);
        CHECK.yes("it lies no more", fair.sick(0));
        fair.lay(0, 5, 5, false);
        fair.take(0);
        CHECK.no("it is still sick", fair.sick(0));
        CHECK.due("it lapses", fair.end(), 1);
    }

    private static void endOfAnEmptyGreen() {
        CHECK.sentence("12 end: the YEAR ends: YEARS are numbered from 0");
        FairGround fair = new FairGround();
        for (int year = 0; year < 200; year++) {
            CHECK.due("YEAR", fair.count(2), year);
            CHECK.due("end()", fair.end(), 0);
        }
    }

    private static void yearsOf(FairGround fair, int right, int held, int missed) {
        CHECK.due("RIGHT", fair.look(0, 3), right);
        CHECK.due("held", fair.look(0, 4), held);
        CHECK.due("missed", fair.look(0, 5), missed);
    }

    private static void endForThoseThatLie() {
        CHECK.sentence("A YEAR ends: each that lies has held one YEAR more, missed 0, a RIGHT to where it lies");
        FairGround fair = withRides(1);
        for (int year = 1; year <= 40; year++) {
            fair.lay(0, year % 12, 3 + year % 2, year % 3 == 0);
            CHECK.due("end()", fair.end(), 0);
            yearsOf(fair, 2 * (12 * (3 + year % 2) + year % 12) + (year % 3 == 0 ? 1 : 0), year, 0);
        }
        CHECK.sentence("A YEAR ends: no text takes a RIGHT from a RIDE that lies");
        Check.text(fair, "lapse when 1;");
        fair.lay(0, 7, 7, false);
        CHECK.due("end()", fair.end(), 0);
        yearsOf(fair, 2 * 91, 41, 0);
    }

    private static void endForThoseThatMiss() {
        CHECK.sentence("A YEAR ends: each that doesn't, but has a RIGHT, has missed one more in a row");
        FairGround fair = withRides(1);
        fair.lay(0, 5, 5, false);
        fair.end();
        for (int missed = 1; missed <= 40; missed++) {
            CHECK.due("end()", fair.end(), 0);
            yearsOf(fair, 2 * 65, 1, missed);
        }
        fair.lay(0, 6, 5, false);
        fair.take(0);
        fair.end();
        yearsOf(fair, 2 * 65, 1, 41);
        fair.lay(0, 6, 5, false);
        fair.end();
        yearsOf(fair, 2 * 66, 2, 0);
        fair.end();
        yearsOf(fair, 2 * 66, 2, 1);
    }

    private static void endWithoutARight() {
        CHECK.sentence("A YEAR ends: without a RIGHT none is missed, none lapses");
        FairGround fair = withRides(1);
        Check.text(fair, "lapse when 1;");
        for (int year = 0; year < 3; year++) {
            CHECK.due("end()", fair.end(), 0);
            yearsOf(fair, -1, 0, 0);
        }
        CHECK.due("RIGHTS", fair.count(4), 0);
    }

    private static void endWithoutALineThatHolds() {
        CHECK.sentence("without a line whose E is not 0 a RIGHT is kept");
        String[] texts = {"", "lapse when 0;", "lapse when 5 - 5; lapse when 2 < 2; keep when 0; lapse when 1 = 2;"};
        for (String text : texts) {
            FairGround fair = withRides(1);
            fair.lay(0, 5, 5, false);
            fair.end();
            CHECK.due("text " + text, Check.text(fair, text), 0);
            CHECK.due("end()", fair.end(), 0);
            yearsOf(fair, 2 * 65, 1, 1);
        }
    }

    private static void endLapses() {
        CHECK.sentence("A YEAR ends: or not (then it has held 0, missed 0)");
        FairGround fair = withRides(1);
        for (int year = 0; year < 3; year++) {
            fair.lay(0, 5, 5, false);
            fair.end();
        }
        Check.text(fair, "keep when missed < 2; lapse when held = 3;");
        CHECK.due("end()", fair.end(), 0);
        yearsOf(fair, 2 * 65, 3, 1);
        CHECK.due("end()", fair.end(), 1);
        yearsOf(fair, -1, 0, 0);
        CHECK.due("it is gone", fair.end(), 0);
        yearsOf(fair, -1, 0, 0);
        fair.lay(0, 5, 6, false);
        fair.end();
        yearsOf(fair, 2 * 77, 1, 0);
    }

    private static void endLapsesOfAll() {
        CHECK.sentence("12 end: how many RIGHTS lapsed");
        FairGround fair = withRides(10);
        for (int n = 0; n < 10; n++) {
            fair.lay(n, n + 1, 3, false);
        }
        CHECK.due("all lie", fair.end(), 0);
        CHECK.due("RIGHTS", fair.count(4), 10);
        Check.text(fair, "lapse when rank < 3;");
        CHECK.due("ranks 0, 1 and 2", fair.end(), 3);
        CHECK.due("RIGHTS", fair.count(4), 7);
        CHECK.due("rank 3 keeps it", fair.look(6, 3), 2 * (36 + 7));
        CHECK.due("rank 2 does not", fair.look(7, 3), -1);
        CHECK.due("nobody more", fair.end(), 0);
        Check.text(fair, "lapse when 1;");
        fair.lay(0, 5, 5, false);
        CHECK.due("all but who lies", fair.end(), 6);
        CHECK.due("RIGHTS", fair.count(4), 1);
    }

    /** 3 * 2 large, of rank 99, it held the years 0 and 1; the text speaks at the end of the year 2. */
    private static int lapsed(String test, boolean sick) {
        FairGround fair = new FairGround();
        fair.ride(3, 2, 7, 8, 99);
        fair.lay(0, 5, 5, false);
        fair.end();
        fair.lay(0, 5, 5, true);
        fair.end();
        if (sick) {
            fair.sick(0);
        }
        CHECK.due("text of " + test, Check.text(fair, "lapse when " + test + ";"), 0);
        return fair.end();
    }

    private static void endTellsTheTextThisYear() {
        CHECK.sentence("missed (with this YEAR)");
        CHECK.due("missed = 1", lapsed("missed = 1", false), 1);
        CHECK.due("missed = 0", lapsed("missed = 0", false), 0);
        CHECK.sentence("held");
        CHECK.due("held = 2", lapsed("held = 2", false), 1);
        CHECK.due("held = 3", lapsed("held = 3", false), 0);
        CHECK.sentence("sick: 1 if it was told so for this YEAR, else 0");
        CHECK.due("sick = 1", lapsed("sick = 1", true), 1);
        CHECK.due("sick = 0", lapsed("sick = 0", true), 0);
        CHECK.due("sick = 1, well", lapsed("sick = 1", false), 0);
        CHECK.due("sick = 0, well", lapsed("sick = 0", false), 1);
        CHECK.sentence("rank");
        CHECK.due("rank = 99", lapsed("rank = 99", false), 1);
        CHECK.sentence("area: width * height");
        CHECK.due("area = 6", lapsed("area = 6", false), 1);
        CHECK.sentence("year: the YEAR that ends");
        CHECK.due("year = 2", lapsed("year = 2", false), 1);
        CHECK.due("year = 3", lapsed("year = 3", false), 0);
        CHECK.sentence("<, = tell 1 or 0");
        CHECK.due("(2 < 3) = 1", lapsed("(2 < 3) = 1", false), 1);
        CHECK.due("(3 < 3) = 0", lapsed("(3 < 3) = 0", false), 1);
        CHECK.due("(3 = 3) = 1", lapsed("(3 = 3) = 1", false), 1);
        CHECK.due("(3 = 2) = 0", lapsed("(3 = 2) = 0", false), 1);
        CHECK.sentence("\"and\": 1 if both sides are not 0");
        CHECK.due("(7 and 0 - 1) = 1", lapsed("(7 and 0 - 1) = 1", false), 1);
        CHECK.due("(7 and 0) = 0", lapsed("(7 and 0) = 0", false), 1);
        CHECK.due("(0 and 7) = 0", lapsed("(0 and 7) = 0", false), 1);
        CHECK.due("(0 and 0) = 0", lapsed("(0 and 0) = 0", false), 1);
        CHECK.sentence("the first line whose E is not 0: below 0, too");
        CHECK.due("0 - 1", lapsed("0 - 1", false), 1);
        CHECK.due("0000", lapsed("0000", false), 0);
        CHECK.sentence("PART: ( E ), 5 within one another, each with an and, a < or =, a + or - that waits for it");
        String deepest = "7 - (1 and 1=0+(1 and 1=0+(1 and 1=0+(1 and 1=1+%d)))) = 6";
        CHECK.due("deepest, 1", lapsed(String.format(deepest, 0), false), 1);
        CHECK.due("deepest, 0", lapsed(String.format(deepest, 1), false), 0);
        String within = "1 and 1=0+(1 and 1=0+(1 and 1=0+(1 and 1=0+(1 and 1=1+%d))))";
        CHECK.due("all waiting, 1", lapsed(String.format(within, 0), false), 1);
        CHECK.due("all waiting, 0", lapsed(String.format(within, 1), false), 0);
        CHECK.due("9 - (2) - (3 - (1)) = 5", lapsed("9 - (2) - (3 - (1)) = 5", false), 1);
        CHECK.due("9 - ((2) < (3)) = 8", lapsed("9 - ((2) < (3)) = 8", false), 1);
        CHECK.sentence("NUMBERS: up to four digits");
        CHECK.due("9999 = 9998 + 1", lapsed("9999 = 9998 + 1", false), 1);
        CHECK.due("9999 < 9999 + 1", lapsed("9999 < 9999 + 1", false), 1);
        CHECK.due("0 - 9999 - 9999 < 0 - 9999 - 9998", lapsed("0 - 9999 - 9999 < 0 - 9999 - 9998", false), 1);
        CHECK.due("0010 = 10", lapsed("0010 = 10", false), 1);
    }

    private static void endNobodyLiesNobodyIsSick() {
        CHECK.sentence("A YEAR ends: then nobody lies, nobody is sick");
        FairGround fair = withRides(10);
        for (int n = 0; n < 10; n++) {
            fair.sick(n);
        }
        for (int n = 0; n < 9; n++) {
            fair.lay(n, n + 1, 3, false);
        }
        fair.end();
        CHECK.due("those that lie", fair.count(1), 0);
        CHECK.due("FREE CELLS", fair.count(3), 120);
        for (int n = 0; n < 10; n++) {
            CHECK.due("it lies", fair.look(n, 0), 0);
            CHECK.due("its PLACE", fair.look(n, 1), -1);
            CHECK.due("its DOOR", fair.look(n, 2), -1);
            CHECK.yes("it was not sick", fair.sick(n));
        }
    }

    private static void endRightToTheFirstPlace() {
        CHECK.sentence("A YEAR ends: a RIGHT to where it lies, be it the PLACE 0");
        FairGround fair = withRides(1);
        fair.gate(9);
        fair.lay(0, 0, 0, false);
        fair.end();
        yearsOf(fair, 0, 1, 0);
        CHECK.due("RIGHTS", fair.count(4), 1);
        fair.end();
        yearsOf(fair, 0, 1, 1);
        Check.text(fair, "lapse when 1;");
        CHECK.due("it lapses like others", fair.end(), 1);
        yearsOf(fair, -1, 0, 0);
    }
}
