/** Promises 1 to 4: the boundary cases of a new object, close, gate and ride, sentence by sentence. */
public final class GreenEdgesTest {
    private static final Check CHECK = new Check();

    public static void main(String[] args) {
        newGreenIsEmpty();
        newGreenHasItsGateInRow0();
        newGreenOwesNothingToAnother();
        closeCorners();
        closeWhatIsClosedOrOpen();
        closeAroundARide();
        closeWhatWasCovered();
        closeTheGateOnlyWhereItIs();
        closeTheLastWay();
        closeADiagonalJoinsNothing();
        closeRowsDoNotWrapAround();
        closeCutsOnlyOneOfTwoDoors();
        closeCutsNobody();
        gateRows();
        gateWhileOneLies();
        gateOnAClosedCell();
        gateStaysWhenRefused();
        rideNumbers();
        rideTenAtMost();
        CHECK.finish();
    }

    private static void newGreenIsEmpty() {
        CHECK.sentence("1: an empty green; YEAR 0");
        FairGround fair = new FairGround();
        int[] due = {0, 0, 0, 120, 0, 0, 0, 0};
        for (int what = 0; what < due.length; what++) {
            CHECK.due("count(" + what + ")", fair.count(what), due[what]);
        }
        for (int at = 0; at < 120; at++) {
            CHECK.due("cell(" + at % 12 + ", " + at / 12 + ")", fair.cell(at % 12, at / 12), -1);
        }
        CHECK.due("orders()", fair.orders(), 1);
        CHECK.due("order(0)", fair.order(0), -1);
        CHECK.due("layAll()", fair.layAll(), 0);
        CHECK.due("rent(0)", fair.rent(0), 0);
        CHECK.due("lit(0)", fair.lit(0), -1);
        CHECK.no("take(0)", fair.take(0));
        CHECK.no("sick(0)", fair.sick(0));
        CHECK.due("end()", fair.end(), 0);
        CHECK.due("the YEAR", fair.count(2), 1);
    }

    private static void newGreenHasItsGateInRow0() {
        CHECK.sentence("the GATE is in row 0 at first");
        FairGround fair = new FairGround();
        for (int y = 0; y < 10; y++) {
            CHECK.due("close(0, " + y + ", true)", fair.close(0, y, true) ? 1 : 0, y == 0 ? 0 : 1);
        }
    }

    private static void newGreenOwesNothingToAnother() {
        CHECK.sentence("1: an empty green, whatever another object went through");
        String fresh = Scene.trace(new FairGround());
        Scene.trace(Scene.full());
        FairGround between = new FairGround();
        Scene.full().bears(0, 1);
        CHECK.same("a new object", Scene.trace(between), fresh);
        CHECK.same("a newer one", Scene.trace(new FairGround()), fresh);
    }

    private static void closeCorners() {
        CHECK.sentence("2 close: the first and the last column and row are there");
        int[][] corners = {{11, 0}, {0, 9}, {11, 9}};
        for (int[] at : corners) {
            FairGround fair = new FairGround();
            CHECK.yes("close", fair.close(at[0], at[1], true));
            for (int n = 0; n < 120; n++) {
                boolean closed = n == 12 * at[1] + at[0];
                CHECK.due("cell(" + n % 12 + ", " + n / 12 + ")", fair.cell(n % 12, n / 12), closed ? -2 : -1);
            }
            CHECK.due("FREE CELLS", fair.count(3), 119);
            CHECK.yes("open", fair.close(at[0], at[1], false));
            CHECK.due("FREE CELLS", fair.count(3), 120);
        }
    }

    private static void closeWhatIsClosedOrOpen() {
        CHECK.sentence("2 close: a CELL is closed (yes) or open: true, also where it was so before");
        FairGround fair = new FairGround();
        CHECK.yes("open what is open", fair.close(5, 5, false));
        CHECK.due("cell(5, 5)", fair.cell(5, 5), -1);
        CHECK.yes("close", fair.close(5, 5, true));
        CHECK.yes("close what is closed", fair.close(5, 5, true));
        CHECK.due("cell(5, 5)", fair.cell(5, 5), -2);
        CHECK.due("FREE CELLS", fair.count(3), 119);
    }

    private static void closeAroundARide() {
        CHECK.sentence("2 close: false: covered, a DOOR; its neighbours are neither");
        for (int y = 2; y <= 6; y++) {
            for (int x = 3; x <= 7; x++) {
                FairGround fair = new FairGround();
                fair.ride(3, 2, 0, 0, 0);
                CHECK.yes("lay", fair.lay(0, 4, 3, false));
                boolean covered = x >= 4 && x <= 6 && (y == 3 || y == 4);
                boolean door = x == 5 && y == 5;
                String at = x + ", " + y;
                CHECK.due("close(" + at + ", true)", fair.close(x, y, true) ? 1 : 0, covered || door ? 0 : 1);
                CHECK.due("cell(" + at + ")", fair.cell(x, y), covered ? 0 : door ? -1 : -2);
                CHECK.due("close(" + at + ", false)", fair.close(x, y, false) ? 1 : 0, covered || door ? 0 : 1);
                CHECK.due("cell(" + at + ")", fair.cell(x, y), covered ? 0 : -1);
            }
        }
    }

    private static void closeWhatWasCovered() {
        CHECK.sentence("2 close: false: covered, a DOOR: no more when the RIDE lies no more");
        FairGround fair = new FairGround();
        fair.ride(1, 1, 0, 0, 0);
        fair.lay(0, 5, 5, false);
        fair.take(0);
        CHECK.yes("what was covered", fair.close(5, 5, true));
        CHECK.yes("what was a door", fair.close(5, 6, true));
        fair.lay(0, 8, 5, false);
        fair.end();
        CHECK.yes("what was covered in another YEAR", fair.close(8, 5, true));
        CHECK.yes("what was a door in another YEAR", fair.close(8, 6, true));
    }

    private static void closeTheGateOnlyWhereItIs() {
        CHECK.sentence("2 close: false: the GATE");
        for (int row = 0; row < 10; row++) {
            FairGround fair = new FairGround();
            CHECK.yes("gate(" + row + ")", fair.gate(row));
            CHECK.no("open the gate", fair.close(0, row, false));
            CHECK.no("close the gate", fair.close(0, row, true));
            CHECK.due("the gate is free", fair.cell(0, row), -1);
            CHECK.yes("another column of its row", fair.close(11, row, true));
            CHECK.yes("another row", fair.close(0, (row + 1) % 10, true));
        }
    }

    private static void closeTheLastWay() {
        CHECK.sentence("2 close: false: some DOOR would not be joined to the GATE");
        FairGround fair = new FairGround();
        fair.ride(1, 1, 0, 0, 0);
        CHECK.yes("lay", fair.lay(0, 6, 6, false));
        // The door is 6, 7; three cells join it to the rest.
        CHECK.yes("the first of three", fair.close(5, 7, true));
        CHECK.yes("the second", fair.close(7, 7, true));
        CHECK.no("the third", fair.close(6, 8, true));
        CHECK.due("it stays open", fair.cell(6, 8), -1);
        CHECK.yes("open the first again", fair.close(5, 7, false));
        CHECK.yes("now the third may be closed", fair.close(6, 8, true));
        CHECK.no("but the first no more", fair.close(5, 7, true));
    }

    private static void closeADiagonalJoinsNothing() {
        CHECK.sentence("joined by FREE CELLS, up, down, left and right");
        FairGround fair = new FairGround();
        fair.ride(1, 1, 0, 0, 0);
        CHECK.yes("lay", fair.lay(0, 6, 6, false));
        CHECK.yes("close 1, 0", fair.close(1, 0, true));
        CHECK.no("the gate would touch 1, 1 by a corner alone", fair.close(0, 1, true));
    }

    private static void closeRowsDoNotWrapAround() {
        CHECK.sentence("joined by FREE CELLS: the end of a row is not beside the start of the next");
        FairGround fair = new FairGround();
        fair.ride(1, 1, 0, 0, 0);
        // The door is 0, 5, and in a row of all cells 11, 4 is just ahead of it.
        CHECK.yes("lay", fair.lay(0, 0, 4, false));
        CHECK.yes("close 0, 6", fair.close(0, 6, true));
        CHECK.no("close 1, 5", fair.close(1, 5, true));
        CHECK.yes("take", fair.take(0));
        // The door is 11, 5, and 0, 6 is just behind it.
        CHECK.yes("lay", fair.lay(0, 11, 4, false));
        CHECK.yes("open 0, 6", fair.close(0, 6, false));
        CHECK.yes("close 11, 6", fair.close(11, 6, true));
        CHECK.no("close 10, 5", fair.close(10, 5, true));
    }

    private static void closeCutsOnlyOneOfTwoDoors() {
        CHECK.sentence("2 close: false: some DOOR, be it only one of many");
        for (int cut = 0; cut < 3; cut++) {
            FairGround fair = new FairGround();
            for (int n = 0; n < 3; n++) {
                fair.ride(1, 1, 0, 0, 0);
                CHECK.yes("lay", fair.lay(n, 2 + 4 * n, 6, false));
            }
            int x = 2 + 4 * cut;
            CHECK.yes("close left of the door", fair.close(x - 1, 7, true));
            CHECK.yes("close right of it", fair.close(x + 1, 7, true));
            CHECK.no("close below it: " + cut + " would be cut off", fair.close(x, 8, true));
            CHECK.yes("take it", fair.take(cut));
            CHECK.yes("then none is", fair.close(x, 8, true));
        }
    }

    private static void closeCutsNobody() {
        CHECK.sentence("2 close: without a DOOR none would not be joined");
        FairGround fair = new FairGround();
        fair.ride(1, 1, 0, 0, 0);
        Scene.closeAllBut(fair, new int[][] {{0, 0}});
        CHECK.due("FREE CELLS", fair.count(3), 1);
        CHECK.no("the gate stays open", fair.close(0, 0, true));
        CHECK.due("no place at all", fair.layAll(), 1);
    }

    private static void gateRows() {
        CHECK.sentence("3 gate: the GATE's row: true");
        FairGround fair = new FairGround();
        for (int y : new int[] {0, 9, 9, 5, 0}) {
            CHECK.yes("gate(" + y + ")", fair.gate(y));
            CHECK.no("it is there", fair.close(0, y, false));
            CHECK.yes("and not elsewhere", fair.close(0, 3, false));
        }
        CHECK.sentence("3 gate: false: none such");
        CHECK.no("gate(-1)", fair.gate(-1));
        CHECK.no("gate(10)", fair.gate(10));
    }

    private static void gateWhileOneLies() {
        CHECK.sentence("3 gate: false: a RIDE lies");
        FairGround fair = new FairGround();
        for (int n = 0; n < 10; n++) {
            fair.ride(1, 1, 0, 0, 0);
        }
        CHECK.yes("rides that do not lie don't count", fair.gate(1));
        CHECK.yes("lay the last one", fair.lay(9, 6, 6, false));
        CHECK.no("another row", fair.gate(2));
        CHECK.no("the same row", fair.gate(1));
        CHECK.yes("take", fair.take(9));
        CHECK.yes("nobody lies", fair.gate(2));
        CHECK.yes("lay", fair.lay(0, 6, 6, false));
        CHECK.no("one lies", fair.gate(4));
        fair.end();
        CHECK.yes("nobody lies in a new YEAR", fair.gate(4));
    }

    private static void gateOnAClosedCell() {
        CHECK.sentence("3 gate: false: the CELL is closed");
        FairGround fair = new FairGround();
        CHECK.yes("close 0, 9", fair.close(0, 9, true));
        CHECK.no("gate(9)", fair.gate(9));
        CHECK.yes("open 0, 9", fair.close(0, 9, false));
        CHECK.yes("gate(9)", fair.gate(9));
        CHECK.yes("the old one is a cell like others", fair.close(0, 0, true));
        CHECK.no("gate(0)", fair.gate(0));
    }

    private static void gateStaysWhenRefused() {
        CHECK.sentence("3 gate: false: and the GATE stays where it is");
        FairGround fair = new FairGround();
        fair.close(0, 7, true);
        for (int y : new int[] {-1, 10, 7, Integer.MAX_VALUE, Integer.MIN_VALUE}) {
            CHECK.no("gate(" + y + ")", fair.gate(y));
            CHECK.no("close the gate in row 0", fair.close(0, 0, true));
        }
    }

    private static void rideNumbers() {
        CHECK.sentence("4 ride: width and height 1 .. 4, power 0 .. 100, noise 0 .. 9, rank 0 .. 99");
        int[] least = {1, 1, 0, 0, 0};
        int[] most = {4, 4, 100, 9, 99};
        for (int n = 0; n < 5; n++) {
            FairGround fair = new FairGround();
            int[] numbers = {least[n] - 1, least[n], most[n], most[n] + 1, Integer.MIN_VALUE, Integer.MAX_VALUE};
            int[] due = {-1, 0, 1, -1, -1, -1};
            for (int k = 0; k < numbers.length; k++) {
                int[] r = {2, 2, 2, 2, 2};
                r[n] = numbers[k];
                CHECK.due("ride" + java.util.Arrays.toString(r), fair.ride(r[0], r[1], r[2], r[3], r[4]), due[k]);
            }
            CHECK.due("RIDES", fair.count(0), 2);
            CHECK.due("the next number", fair.ride(2, 2, 2, 2, 2), 2);
        }
    }

    private static void rideTenAtMost() {
        CHECK.sentence("4 ride: NONE: 10 are there");
        FairGround fair = new FairGround();
        for (int n = 0; n < 10; n++) {
            CHECK.due("ride", fair.ride(1, 1, 0, 0, n % 3), n);
            CHECK.due("RIDES", fair.count(0), n + 1);
        }
        CHECK.due("an 11th", fair.ride(1, 1, 0, 0, 99), -1);
        CHECK.due("RIDES", fair.count(0), 10);
        CHECK.yes("the 10th can be laid", fair.lay(9, 5, 5, false));
        CHECK.due("cell(5, 5)", fair.cell(5, 5), 9);
        CHECK.no("the 11th can't", fair.lay(10, 7, 5, false));
        CHECK.yes("take", fair.take(9));
        CHECK.due("taken rides stay rides", fair.ride(1, 1, 0, 0, 0), -1);
        fair.end();
        CHECK.due("in a new YEAR, too", fair.ride(1, 1, 0, 0, 0), -1);
    }
}
