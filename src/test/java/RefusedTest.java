import java.util.function.Supplier;
import java.util.function.ToIntFunction;

/**
 * Every call that the document refuses, and every question: what it answers, and that nothing at all
 * is otherwise behind it. The same fair is built twice, only one gets the call, and both are traced.
 */
public final class RefusedTest {
    private static final Check CHECK = new Check();
    private static final int MIN = Integer.MIN_VALUE;
    private static final int MAX = Integer.MAX_VALUE;
    /** 12 times this is 8 as an int: in a row of all cells, it would stand for one that is there. */
    private static final int WRAPPED_ROW = 357913942;
    /** Numbers of rides that are not there when there are nine. */
    private static final int[] NO_RIDE = {-1, 9, 10, MIN, MAX};
    private static final int[][] NO_CELL = {{-1, 5}, {12, 5}, {5, -1}, {5, 10}, {-1, 1}, {12, 0}, {MIN, 5}, {MAX, 5},
        {5, MIN}, {5, MAX}, {MIN, MIN}, {MAX, MAX}, {5, WRAPPED_ROW}, {-12, 1}, {MIN + 1, MAX}};

    public static void main(String[] args) {
        close();
        gate();
        ride();
        fits();
        lay();
        take();
        orders();
        sick();
        feed();
        text();
        bears();
        lit();
        rate();
        share();
        rent();
        change();
        look();
        cell();
        count();
        CHECK.finish();
    }

    private static void idle(String call, Supplier<FairGround> scene, int due, ToIntFunction<FairGround> made) {
        FairGround called = scene.get();
        CHECK.due(call, Scene.answer(called, made), due);
        CHECK.same("behind " + call, Scene.trace(called), Scene.trace(scene.get()));
    }

    private static void idle(String call, int due, ToIntFunction<FairGround> made) {
        idle(call, Scene::full, due, made);
    }

    private static void refuseClosing(int x, int y) {
        idle("close(" + x + ", " + y + ", true)", 0, fair -> fair.close(x, y, true) ? 1 : 0);
        idle("close(" + x + ", " + y + ", false)", 0, fair -> fair.close(x, y, false) ? 1 : 0);
    }

    private static void close() {
        CHECK.sentence("2 close: false: none such");
        for (int[] at : NO_CELL) {
            refuseClosing(at[0], at[1]);
        }
        CHECK.sentence("2 close: false: covered");
        refuseClosing(4, 4);
        refuseClosing(5, 5);
        refuseClosing(11, 5);
        CHECK.sentence("2 close: false: a DOOR");
        refuseClosing(4, 6);
        refuseClosing(7, 2);
        refuseClosing(11, 6);
        CHECK.sentence("2 close: false: the GATE");
        refuseClosing(0, 3);
        idle("close(0, 3, true), nobody lies", Scene::nobodyLies, 0, fair -> fair.close(0, 3, true) ? 1 : 0);
        CHECK.sentence("2 close: false: some DOOR would not be joined to the GATE");
        idle("close(10, 6, true)", 0, fair -> fair.close(10, 6, true) ? 1 : 0);
    }

    private static void gate() {
        CHECK.sentence("3 gate: false: none such");
        for (int y : new int[] {-1, 10, -3, 12, MIN, MAX, WRAPPED_ROW}) {
            idle("gate(" + y + ")", Scene::nobodyLies, 0, fair -> fair.gate(y) ? 1 : 0);
        }
        CHECK.sentence("3 gate: false: a RIDE lies");
        for (int y = 0; y < 10; y++) {
            int row = y;
            idle("gate(" + y + ")", 0, fair -> fair.gate(row) ? 1 : 0);
        }
        CHECK.sentence("3 gate: false: the CELL is closed");
        idle("gate(7)", Scene::nobodyLies, 0, fair -> fair.gate(7) ? 1 : 0);
    }

    private static void ride() {
        CHECK.sentence("4 ride: NONE: other numbers");
        int[] least = {1, 1, 0, 0, 0};
        int[] most = {4, 4, 100, 9, 99};
        for (int n = 0; n < 5; n++) {
            for (int wrong : new int[] {least[n] - 1, most[n] + 1, MIN, MAX}) {
                int[] r = {2, 2, 2, 2, 2};
                r[n] = wrong;
                idle("ride" + java.util.Arrays.toString(r), -1, fair -> fair.ride(r[0], r[1], r[2], r[3], r[4]));
            }
        }
        CHECK.sentence("4 ride: NONE: 10 are there");
        idle("ride(2, 2, 2, 2, 2)", Scene::tenRides, -1, fair -> fair.ride(2, 2, 2, 2, 2));
        idle("ride(1, 1, 0, 0, 0)", Scene::tenRides, -1, fair -> fair.ride(1, 1, 0, 0, 0));
        idle("ride(4, 4, 100, 9, 99)", Scene::tenRides, -1, fair -> fair.ride(4, 4, 100, 9, 99));
    }

    private static void fits() {
        CHECK.sentence("5 fits: 1 or 0, and it lies nowhere for that");
        idle("fits(6, 5, 7, false)", 1, fair -> fair.fits(6, 5, 7, false));
        idle("fits(6, 4, 6, true)", 0, fair -> fair.fits(6, 4, 6, true));
        CHECK.sentence("5 fits: a place that is not on the GREEN");
        for (int[] at : NO_CELL) {
            idle("fits(7, " + at[0] + ", " + at[1] + ", false)", 0, fair -> fair.fits(7, at[0], at[1], false));
            idle("fits(7, " + at[0] + ", " + at[1] + ", true)", 0, fair -> fair.fits(7, at[0], at[1], true));
        }
        CHECK.sentence("5 fits: NONE: none such");
        for (int ride : NO_RIDE) {
            idle("fits(" + ride + ", 5, 7, false)", -1, fair -> fair.fits(ride, 5, 7, false));
        }
        CHECK.sentence("5 fits: NONE: it lies");
        idle("fits(2, 4, 4, false)", -1, fair -> fair.fits(2, 4, 4, false));
        idle("fits(2, 8, 7, false)", -1, fair -> fair.fits(2, 8, 7, false));
        idle("fits(2, 12, 10, false)", -1, fair -> fair.fits(2, 12, 10, false));
    }

    private static void lay() {
        CHECK.sentence("6 lay: false: it doesn't FIT");
        for (int[] at : NO_CELL) {
            idle("lay(7, " + at[0] + ", " + at[1] + ", false)", 0, fair -> fair.lay(7, at[0], at[1], false) ? 1 : 0);
        }
        int[][] taken = {{4, 4}, {4, 3}, {0, 3}, {4, 6}, {11, 7}, {10, 6}};
        for (int[] at : taken) {
            idle("lay(7, " + at[0] + ", " + at[1] + ", true)", 0, fair -> fair.lay(7, at[0], at[1], true) ? 1 : 0);
        }
        CHECK.sentence("6 lay: false: it lies");
        idle("lay(2, 4, 4, false)", 0, fair -> fair.lay(2, 4, 4, false) ? 1 : 0);
        idle("lay(2, 8, 7, false)", 0, fair -> fair.lay(2, 8, 7, false) ? 1 : 0);
        CHECK.sentence("6 lay: false: none such");
        for (int ride : NO_RIDE) {
            idle("lay(" + ride + ", 5, 7, false)", 0, fair -> fair.lay(ride, 5, 7, false) ? 1 : 0);
        }
    }

    private static void take() {
        CHECK.sentence("7 take: false: it doesn't lie");
        for (int ride = 6; ride < 9; ride++) {
            int number = ride;
            idle("take(" + ride + ")", 0, fair -> fair.take(number) ? 1 : 0);
        }
        idle("take(0) in a new YEAR", Scene::nobodyLies, 0, fair -> fair.take(0) ? 1 : 0);
        CHECK.sentence("7 take: false: none such");
        for (int ride : NO_RIDE) {
            idle("take(" + ride + ")", 0, fair -> fair.take(ride) ? 1 : 0);
        }
    }

    private static void orders() {
        CHECK.sentence("9 orders: how many there are");
        idle("orders()", 720, FairGround::orders);
        idle("orders(), nobody lies", Scene::nobodyLies, 1, FairGround::orders);
        CHECK.sentence("10 order: NONE: none such");
        idle("order(5)", 5, fair -> fair.order(5));
        for (int i : new int[] {-1, 6, 9, 10, MIN, MAX}) {
            idle("order(" + i + ")", -1, fair -> fair.order(i));
        }
        idle("order(0), nobody lies", Scene::nobodyLies, -1, fair -> fair.order(0));
    }

    private static void sick() {
        CHECK.sentence("11 sick: false: none such");
        for (int ride : NO_RIDE) {
            idle("sick(" + ride + ")", 0, fair -> fair.sick(ride) ? 1 : 0);
        }
        CHECK.sentence("11 sick: false: it is");
        idle("sick(6)", 0, fair -> fair.sick(6) ? 1 : 0);
        CHECK.sentence("11 sick: false: it lies");
        for (int ride = 0; ride < 6; ride++) {
            int number = ride;
            idle("sick(" + ride + ")", 0, fair -> fair.sick(number) ? 1 : 0);
        }
    }

    private static void feed() {
        CHECK.sentence("13 feed: others than 10 and 32 .. 126 are left out");
        idle("feed(0, 0, 0)", 5, fair -> fair.feed(0, 0, 0));
        idle("feed(-1, -1, -1)", 5, fair -> fair.feed(-1, -1, -1));
        idle("feed of 9, 11, 31, 127, 128", 5, fair -> fair.feed(0x090b1f7f80L, Long.MIN_VALUE, 0x80ff000000000000L));
        CHECK.sentence("13 feed: what is beyond 600 is left out");
        idle("feed of 24 letters", Scene::tapeFull, 600, fair -> Check.feed(fair, "lapse when 1;lapse when 2;"));
        idle("feed of nothing", Scene::tapeFull, 600, fair -> fair.feed(0, 0, 0));
    }

    /** A faulty text takes the tape, but is in no one's place. */
    private static void text() {
        CHECK.sentence("14 text: its FAULT");
        FairGround faulty = Scene.full();
        Check.feed(faulty, "when 0; lapse when 1; lapse when");
        CHECK.due("text()", faulty.text(), 1 + 16 * 37);
        FairGround untold = Scene.full();
        CHECK.due("text() of \"keep \"", untold.text(), 1 + 16 * 5);
        CHECK.same("behind text()", Scene.trace(faulty), Scene.trace(untold));
    }

    private static void bears() {
        CHECK.sentence("15 bears: false: no such line (0 .. 2)");
        for (int line : new int[] {-1, 3, MIN, MAX}) {
            idle("bears(" + line + ", 5)", 0, fair -> fair.bears(line, 5) ? 1 : 0);
        }
        CHECK.sentence("15 bears: false: another number");
        for (int line = 0; line < 3; line++) {
            int number = line;
            for (int power : new int[] {-1, 1001, MIN, MAX}) {
                idle("bears(" + line + ", " + power + ")", 0, fair -> fair.bears(number, power) ? 1 : 0);
            }
        }
    }

    private static void lit() {
        CHECK.sentence("16 lit: 1, 0 dark");
        int[] due = {0, 1, 0, 1, 1, 0};
        for (int ride = 0; ride < due.length; ride++) {
            int number = ride;
            idle("lit(" + ride + ")", due[ride], fair -> fair.lit(number));
        }
        CHECK.sentence("16 lit: NONE: it doesn't lie");
        idle("lit(6)", -1, fair -> fair.lit(6));
        idle("lit(8)", -1, fair -> fair.lit(8));
        idle("lit(2) in a new YEAR", Scene::nobodyLies, -1, fair -> fair.lit(2));
        CHECK.sentence("16 lit: NONE: none such");
        for (int ride : NO_RIDE) {
            idle("lit(" + ride + ")", -1, fair -> fair.lit(ride));
        }
    }

    private static void rate() {
        CHECK.sentence("17 rate: false: another one");
        for (int rate : new int[] {-1, 1001, MIN, MAX}) {
            idle("rate(" + rate + ")", 0, fair -> fair.rate(rate) ? 1 : 0);
        }
    }

    private static void share() {
        CHECK.sentence("18 share: false: none such");
        for (int holder : new int[] {-1, 3, MIN, MAX}) {
            idle("share(" + holder + ", 5)", 0, fair -> fair.share(holder, 5) ? 1 : 0);
        }
        CHECK.sentence("18 share: false: another share");
        for (int holder = 0; holder < 3; holder++) {
            int number = holder;
            for (int share : new int[] {0, -1, 1001, MIN, MAX}) {
                idle("share(" + holder + ", " + share + ")", 0, fair -> fair.share(number, share) ? 1 : 0);
            }
        }
    }

    private static void rent() {
        CHECK.sentence("19 rent: NONE: none such");
        for (int holder : new int[] {-1, 3, MIN, MAX}) {
            idle("rent(" + holder + ")", -1, fair -> fair.rent(holder));
        }
    }

    private static void refuseChange(int ride, int width, int height, int what) {
        idle("change(" + ride + ", " + width + ", " + height + ", " + what + ")", -1,
                fair -> fair.change(ride, width, height, what));
    }

    private static void change() {
        CHECK.sentence("20 change: it is only told, not made");
        idle("change(2, 4, 4, 0)", 0, fair -> fair.change(2, 4, 4, 0));
        CHECK.sentence("20 change: -1: it does not lie");
        for (int what = 0; what < 2; what++) {
            refuseChange(6, 1, 1, what);
            refuseChange(8, 4, 4, what);
        }
        CHECK.sentence("20 change: -1: none such");
        for (int ride : NO_RIDE) {
            refuseChange(ride, 1, 1, 0);
            refuseChange(ride, 1, 1, 1);
        }
        CHECK.sentence("20 change: -1: another size");
        for (int size : new int[] {0, -1, 5, MIN, MAX}) {
            refuseChange(2, size, 1, 0);
            refuseChange(2, 1, size, 1);
        }
        CHECK.sentence("20 change: -1: another what (0, 1)");
        for (int what : new int[] {-1, 2, MIN, MAX}) {
            refuseChange(2, 1, 1, what);
        }
    }

    private static void look() {
        CHECK.sentence("21 look: NoSuchElementException: none such");
        for (int ride : NO_RIDE) {
            for (int what = 0; what < 6; what++) {
                int asked = what;
                idle("look(" + ride + ", " + what + ")", Scene.THROWN, fair -> fair.look(ride, asked));
            }
        }
        for (int what : new int[] {-1, 6, MIN, MAX}) {
            idle("look(2, " + what + ")", Scene.THROWN, fair -> fair.look(2, what));
            idle("look(9, " + what + ")", Scene.THROWN, fair -> fair.look(9, what));
        }
    }

    private static void cell() {
        CHECK.sentence("22 cell: -3 none such");
        for (int[] at : NO_CELL) {
            idle("cell(" + at[0] + ", " + at[1] + ")", -3, fair -> fair.cell(at[0], at[1]));
        }
    }

    private static void count() {
        CHECK.sentence("23 count: NONE for another what");
        for (int what : new int[] {-1, 8, MIN, MAX}) {
            idle("count(" + what + ")", -1, fair -> fair.count(what));
        }
    }
}
