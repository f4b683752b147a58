/** Promises 11 and 12: who is sick, and what a year's end does to rights. */
public final class YearsTest {
    private static final Check CHECK = new Check();

    public static void main(String[] args) {
        sick();
        rightsAreGained();
        rightsAreMissed();
        rightsLapse();
        firstLineThatHolds();
        facts();
        sums();
        CHECK.finish();
    }

    private static void sick() {
        FairGround fair = new FairGround();
        fair.ride(1, 1, 0, 0, 0);
        CHECK.no("none such", fair.sick(1));
        CHECK.no("none such, below", fair.sick(-1));
        CHECK.yes("sick", fair.sick(0));
        CHECK.no("sick already", fair.sick(0));
        CHECK.yes("the sick may be laid", fair.lay(0, 3, 3, false));
        CHECK.no("sick and lies", fair.sick(0));
        fair.end();
        CHECK.yes("sick in another year", fair.sick(0));
        fair.end();
        fair.lay(0, 3, 3, false);
        CHECK.no("it lies", fair.sick(0));
        fair.take(0);
        CHECK.yes("it lies no more", fair.sick(0));
    }

    private static void rightsAreGained() {
        FairGround fair = new FairGround();
        fair.ride(2, 1, 0, 0, 0);
        CHECK.due("no right", fair.look(0, 3), -1);
        CHECK.due("a year without rights", fair.end(), 0);
        CHECK.due("not missed without a right", fair.look(0, 5), 0);
        CHECK.due("no right gained", fair.look(0, 3), -1);
        CHECK.due("year", fair.count(2), 1);
        fair.lay(0, 4, 4, true);
        CHECK.due("no right before the end", fair.look(0, 3), -1);
        CHECK.due("end", fair.end(), 0);
        CHECK.due("a right to where it lay", fair.look(0, 3), 2 * (48 + 4) + 1);
        CHECK.due("held", fair.look(0, 4), 1);
        CHECK.due("it lies no more", fair.look(0, 0), 0);
        CHECK.due("all is free", fair.count(3), 120);
        CHECK.due("rights", fair.count(4), 1);
        fair.lay(0, 7, 7, false);
        CHECK.due("the right stays within the year", fair.look(0, 3), 2 * (48 + 4) + 1);
        fair.end();
        CHECK.due("a right to the new place", fair.look(0, 3), 2 * (84 + 7));
        CHECK.due("held goes on", fair.look(0, 4), 2);
    }

    private static void rightsAreMissed() {
        FairGround fair = new FairGround();
        fair.ride(1, 1, 0, 0, 0);
        fair.lay(0, 5, 5, false);
        fair.end();
        CHECK.due("kept without a text", fair.end(), 0);
        CHECK.due("missed", fair.look(0, 5), 1);
        CHECK.due("missed again", fair.end(), 0);
        CHECK.due("missed", fair.look(0, 5), 2);
        CHECK.due("held stays", fair.look(0, 4), 1);
        fair.lay(0, 5, 5, false);
        fair.end();
        CHECK.due("in a row: 0 again", fair.look(0, 5), 0);
        CHECK.due("held", fair.look(0, 4), 2);
        CHECK.due("taken before the end: missed", missedWhenTaken(fair), 1);
    }

    private static int missedWhenTaken(FairGround fair) {
        fair.lay(0, 5, 5, false);
        fair.take(0);
        fair.end();
        return fair.look(0, 5);
    }

    private static void rightsLapse() {
        FairGround fair = new FairGround();
        fair.ride(1, 1, 0, 0, 0);
        fair.ride(1, 1, 0, 0, 0);
        fair.lay(0, 5, 5, false);
        fair.end();
        CHECK.due("text", Check.text(fair, "lapse when 1 < missed;"), 0);
        CHECK.due("missed once", fair.end(), 0);
        CHECK.due("missed twice", fair.end(), 1);
        CHECK.due("no right", fair.look(0, 3), -1);
        CHECK.due("held 0", fair.look(0, 4), 0);
        CHECK.due("missed 0", fair.look(0, 5), 0);
        CHECK.due("rights", fair.count(4), 0);
        CHECK.due("nothing to lapse", fair.end(), 0);
        CHECK.due("who lies loses none", lapsedWhileLying(fair), 0);
    }

    private static int lapsedWhileLying(FairGround fair) {
        Check.text(fair, "lapse when 1;");
        fair.lay(0, 5, 5, false);
        fair.end();
        fair.lay(0, 5, 5, false);
        return fair.end();
    }

    private static void firstLineThatHolds() {
        CHECK.due("keep first", lapses("keep when 1; lapse when 1;"), 0);
        CHECK.due("lapse first", lapses("lapse when 1; keep when 1;"), 1);
        CHECK.due("a line of 0 says nothing", lapses("keep when 0; lapse when 2;"), 1);
        CHECK.due("nor another", lapses("lapse when 0; lapse when 1 - 1;"), 0);
        CHECK.due("below 0 is not 0", lapses("lapse when 0 - 1;"), 1);
        CHECK.due("no line", lapses(""), 0);
        StringBuilder sixteen = new StringBuilder();
        for (int n = 0; n < 15; n++) {
            sixteen.append("keep when 0;");
        }
        CHECK.due("the 16th line", lapses(sixteen + "lapse when 1;"), 1);
    }

    /** In the year 2, one ride, 3 * 2 large, of rank 40, held 1, has missed 2, is sick. */
    private static int lapses(String text) {
        FairGround fair = new FairGround();
        fair.ride(3, 2, 17, 0, 40);
        fair.lay(0, 5, 5, false);
        fair.end();
        fair.end();
        fair.sick(0);
        CHECK.due(text, Check.text(fair, text), 0);
        return fair.end();
    }

    private static void facts() {
        String[] facts = {"missed = 2", "held = 1", "sick = 1", "rank = 40", "area = 6", "year = 2"};
        for (String fact : facts) {
            CHECK.due(fact, lapses("lapse when " + fact + ";"), 1);
            CHECK.due(fact + ", and no less", lapses("lapse when " + fact.replace('=', '<') + ";"), 0);
        }
        FairGround well = new FairGround();
        well.ride(1, 1, 0, 0, 0);
        well.ride(1, 1, 0, 0, 0);
        well.lay(0, 5, 5, false);
        well.lay(1, 7, 7, false);
        well.end();
        well.sick(1);
        Check.text(well, "keep when sick; lapse when 1;");
        CHECK.due("only the sick keeps", well.end(), 1);
        CHECK.due("the sick one", well.look(1, 3), 2 * (84 + 7));
        CHECK.due("nobody is sick in the next year", well.end(), 1);
    }

    private static void sums() {
        String[] hold = {"1 + 2 - 3 = 0", "9 - 4 - 3 = 2", "9 - (4 - 3) = 8", "2 < 3", "1 and 2",
            "1 < 2 and 3 = 3", "(1 < 2) = 1", "(2 < 1) = 0", "(5 and 7) = 1", "(5 and 0) = 0",
            "(0 and 5) + 1", "(7) = 7", "((((7)))) = 7", "9999 - 9998", "0007 = 7",
            "1 and 1 and 1", "0 - 1 < 0", "(1 and 2) + (3 and 4) = 2", "1+(1+(1+(1+1)))=5",
            "1 and 1=0+(1 and 1=0+(1 and 1=0+(1 and 1=0+(1 and 1=1+0))))"};
        for (String e : hold) {
            CHECK.due("holds: " + e, lapses("lapse when " + e + ";"), 1);
        }
        String[] fail = {"1 - 1", "3 < 3", "3 < 2", "2 = 3", "1 and 0", "0 and 1", "1 and 1 and 0",
            "0 and 1 and 1", "1 < 2 and 2 < 2", "sick - 1", "missed + held - 3",
            "1 and 1=0+(1 and 1=0+(1 and 1=0+(1 and 1=0+(1 and 1=1+1))))"};
        for (String e : fail) {
            CHECK.due("does not hold: " + e, lapses("lapse when " + e + ";"), 0);
        }
    }
}
