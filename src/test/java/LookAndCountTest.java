/** Promises 21 to 23: what the calls tell of a ride, a cell and the whole. */
public final class LookAndCountTest {
    private static final Check CHECK = new Check();

    public static void main(String[] args) {
        noSuchRide();
        looks();
        doors();
        cells();
        counts();
        CHECK.finish();
    }

    private static void noSuchRide() {
        FairGround fair = new FairGround();
        for (int what = 0; what < 6; what++) {
            CHECK.noSuchElement(fair, 0, what);
        }
        fair.ride(1, 1, 0, 0, 0);
        int[] none = {-1, 1, 10, Integer.MIN_VALUE, Integer.MAX_VALUE};
        for (int ride : none) {
            CHECK.noSuchElement(fair, ride, 0);
        }
        int[] noWhat = {-1, 6, Integer.MIN_VALUE, Integer.MAX_VALUE};
        for (int what : noWhat) {
            CHECK.noSuchElement(fair, 0, what);
        }
    }

    private static void look(FairGround fair, int ride, int... due) {
        for (int what = 0; what < due.length; what++) {
            CHECK.due("look(" + ride + ", " + what + ")", fair.look(ride, what), due[what]);
        }
    }

    private static void looks() {
        FairGround fair = new FairGround();
        fair.ride(4, 2, 0, 0, 0);
        look(fair, 0, 0, -1, -1, -1, 0, 0);
        fair.lay(0, 8, 3, false);
        look(fair, 0, 1, 2 * (36 + 8), 60 + 9, -1, 0, 0);
        fair.end();
        look(fair, 0, 0, -1, -1, 2 * (36 + 8), 1, 0);
        fair.end();
        look(fair, 0, 0, -1, -1, 2 * (36 + 8), 1, 1);
        fair.lay(0, 10, 3, true);
        look(fair, 0, 1, 2 * (36 + 10) + 1, 84 + 10, 2 * (36 + 8), 1, 1);
        fair.end();
        look(fair, 0, 0, -1, -1, 2 * (36 + 10) + 1, 2, 0);
    }

    private static void doors() {
        int[] offsets = {0, 0, 1, 1};
        for (int width = 1; width <= 4; width++) {
            for (int height = 1; height <= 4; height++) {
                FairGround fair = new FairGround();
                fair.ride(width, height, 0, 0, 0);
                fair.lay(0, 5, 2, false);
                int door = 12 * (2 + height) + 5 + offsets[width - 1];
                CHECK.due("door of " + width + " * " + height, fair.look(0, 2), door);
                fair.take(0);
                fair.lay(0, 5, 2, true);
                int turned = 12 * (2 + width) + 5 + offsets[height - 1];
                CHECK.due("door of " + width + " * " + height + ", turned", fair.look(0, 2), turned);
            }
        }
    }

    private static void cells() {
        FairGround fair = new FairGround();
        fair.ride(2, 1, 0, 0, 0);
        fair.ride(1, 2, 0, 0, 0);
        fair.lay(0, 2, 2, false);
        fair.lay(1, 11, 7, false);
        fair.close(7, 7, true);
        CHECK.due("covered by 0", fair.cell(3, 2), 0);
        CHECK.due("covered by 1", fair.cell(11, 8), 1);
        CHECK.due("a door is free", fair.cell(11, 9), -1);
        CHECK.due("the gate is free", fair.cell(0, 0), -1);
        CHECK.due("closed", fair.cell(7, 7), -2);
        CHECK.due("none such", fair.cell(12, 9), -3);
        CHECK.due("none such", fair.cell(11, 10), -3);
        CHECK.due("none such", fair.cell(-1, 5), -3);
        CHECK.due("none such", fair.cell(5, -1), -3);
        CHECK.due("free cells", fair.count(3), 115);
    }

    private static void counts() {
        FairGround fair = new FairGround();
        fair.ride(2, 2, 0, 0, 0);
        fair.ride(1, 1, 0, 0, 0);
        fair.ride(1, 1, 0, 0, 0);
        fair.lay(0, 5, 5, false);
        fair.lay(1, 8, 5, false);
        fair.end();
        fair.lay(0, 5, 5, false);
        fair.close(9, 9, true);
        Check.text(fair, "keep when 1; lapse when 1; keep when 0;");
        Check.feed(fair, "keep ");
        fair.rate(5);
        int[] due = {3, 1, 1, 115, 2, 3, 5, 20};
        for (int what = 0; what < due.length; what++) {
            CHECK.due("count(" + what + ")", fair.count(what), due[what]);
        }
        int[] none = {-1, 8, Integer.MIN_VALUE, Integer.MAX_VALUE};
        for (int what : none) {
            CHECK.due("count(" + what + ")", fair.count(what), -1);
        }
    }
}
