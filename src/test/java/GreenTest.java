/** Promises 1 to 8 and 22: the green, its gate, rides that fit, are laid and taken. */
public final class GreenTest {
    private static final Check CHECK = new Check();

    public static void main(String[] args) {
        newObject();
        closing();
        closingKeepsDoorsJoined();
        gate();
        rideNumbers();
        fittingOnTheGreen();
        fittingByDoors();
        fittingByNoise();
        fittingByWays();
        layingAndTaking();
        layingAll();
        layingAllByRights();
        CHECK.finish();
    }

    private static void newObject() {
        FairGround fair = new FairGround();
        int[] due = {0, 0, 0, 120, 0, 0, 0, 0};
        for (int what = 0; what < due.length; what++) {
            CHECK.due("new: count(" + what + ")", fair.count(what), due[what]);
        }
        for (int y = 0; y < 10; y++) {
            for (int x = 0; x < 12; x++) {
                CHECK.due("new: cell(" + x + ", " + y + ")", fair.cell(x, y), -1);
            }
        }
        CHECK.no("new: the gate is in row 0", fair.close(0, 0, true));
        CHECK.yes("new: no other gate", fair.close(0, 1, true));
        int[][] none = {{-1, 0}, {0, -1}, {12, 0}, {0, 10}, {Integer.MIN_VALUE, 0},
            {Integer.MAX_VALUE, Integer.MAX_VALUE}, {0, Integer.MAX_VALUE}};
        for (int[] at : none) {
            CHECK.due("cell(" + at[0] + ", " + at[1] + ")", fair.cell(at[0], at[1]), -3);
            CHECK.no("close(" + at[0] + ", " + at[1] + ")", fair.close(at[0], at[1], true));
            CHECK.no("open(" + at[0] + ", " + at[1] + ")", fair.close(at[0], at[1], false));
        }
    }

    private static void closing() {
        FairGround fair = new FairGround();
        CHECK.yes("close a cell", fair.close(11, 9, true));
        CHECK.due("a closed cell", fair.cell(11, 9), -2);
        CHECK.yes("close it again", fair.close(11, 9, true));
        CHECK.due("free cells", fair.count(3), 119);
        CHECK.yes("open it", fair.close(11, 9, false));
        CHECK.yes("open it again", fair.close(11, 9, false));
        CHECK.due("an open cell", fair.cell(11, 9), -1);
        CHECK.no("close the gate", fair.close(0, 0, true));
        CHECK.no("open the gate", fair.close(0, 0, false));
        fair.ride(2, 2, 0, 0, 0);
        CHECK.yes("lay", fair.lay(0, 4, 4, false));
        CHECK.no("close a covered cell", fair.close(5, 5, true));
        CHECK.no("open a covered cell", fair.close(5, 5, false));
        CHECK.due("still covered", fair.cell(5, 5), 0);
        CHECK.no("close a door", fair.close(4, 6, true));
        CHECK.no("open a door", fair.close(4, 6, false));
        CHECK.yes("close beside the door", fair.close(5, 6, true));
        CHECK.yes("take", fair.take(0));
        CHECK.yes("close what was covered", fair.close(5, 5, true));
        CHECK.yes("close what was a door", fair.close(4, 6, true));
    }

    private static void closingKeepsDoorsJoined() {
        FairGround fair = new FairGround();
        fair.ride(1, 1, 0, 0, 0);
        fair.lay(0, 6, 6, false);
        CHECK.yes("close one way from the gate", fair.close(1, 0, true));
        CHECK.no("close the last way", fair.close(0, 1, true));
        CHECK.due("it stays free", fair.cell(0, 1), -1);
        CHECK.yes("without a ride", fair.take(0));
        CHECK.yes("the last way may be closed", fair.close(0, 1, true));
        CHECK.yes("and opened", fair.close(0, 1, false));
    }

    private static void gate() {
        FairGround fair = new FairGround();
        CHECK.no("gate(-1)", fair.gate(-1));
        CHECK.no("gate(10)", fair.gate(10));
        CHECK.no("gate(max)", fair.gate(Integer.MAX_VALUE));
        CHECK.yes("gate(0), where it is", fair.gate(0));
        CHECK.yes("close 0, 5", fair.close(0, 5, true));
        CHECK.no("gate at a closed cell", fair.gate(5));
        CHECK.yes("gate(9)", fair.gate(9));
        CHECK.yes("the old gate may be closed", fair.close(0, 0, true));
        CHECK.no("the new one not", fair.close(0, 9, true));
        fair.ride(1, 1, 0, 0, 0);
        CHECK.due("not on the gate", fair.fits(0, 0, 9, false), 0);
        CHECK.due("the gate may be the door", fair.fits(0, 0, 8, false), 1);
        CHECK.yes("lay", fair.lay(0, 5, 5, false));
        CHECK.no("no gate while a ride lies", fair.gate(3));
        CHECK.yes("take", fair.take(0));
        CHECK.yes("gate(3)", fair.gate(3));
    }

    private static void rideNumbers() {
        FairGround fair = new FairGround();
        int[][] bad = {{0, 1, 0, 0, 0}, {5, 1, 0, 0, 0}, {1, 0, 0, 0, 0}, {1, 5, 0, 0, 0},
            {1, 1, -1, 0, 0}, {1, 1, 101, 0, 0}, {1, 1, 0, -1, 0}, {1, 1, 0, 10, 0},
            {1, 1, 0, 0, -1}, {1, 1, 0, 0, 100}, {Integer.MIN_VALUE, 1, 0, 0, 0},
            {1, Integer.MAX_VALUE, 0, 0, 0}};
        for (int[] r : bad) {
            CHECK.due("ride" + java.util.Arrays.toString(r), fair.ride(r[0], r[1], r[2], r[3], r[4]), -1);
        }
        CHECK.due("no ride yet", fair.count(0), 0);
        CHECK.due("the least numbers", fair.ride(1, 1, 0, 0, 0), 0);
        CHECK.due("the greatest numbers", fair.ride(4, 4, 100, 9, 99), 1);
        for (int n = 2; n < 10; n++) {
            CHECK.due("ride " + n, fair.ride(1, 2, 3, 4, 5), n);
        }
        CHECK.due("an 11th ride", fair.ride(1, 1, 0, 0, 0), -1);
        CHECK.due("ten rides", fair.count(0), 10);
    }

    private static void fittingOnTheGreen() {
        FairGround fair = new FairGround();
        fair.ride(3, 2, 0, 0, 0);
        CHECK.due("none such", fair.fits(1, 3, 3, false), -1);
        CHECK.due("none such, below", fair.fits(-1, 3, 3, false), -1);
        CHECK.due("right edge", fair.fits(0, 9, 0, false), 1);
        CHECK.due("beyond the right edge", fair.fits(0, 10, 0, false), 0);
        CHECK.due("right edge, turned", fair.fits(0, 10, 0, true), 1);
        CHECK.due("low edge", fair.fits(0, 3, 7, false), 1);
        CHECK.due("no row for the door", fair.fits(0, 3, 8, false), 0);
        CHECK.due("low edge, turned", fair.fits(0, 3, 6, true), 1);
        CHECK.due("no row for the door, turned", fair.fits(0, 3, 7, true), 0);
        CHECK.due("on the gate", fair.fits(0, 0, 0, false), 0);
        int[] far = {-1, Integer.MIN_VALUE, Integer.MAX_VALUE, Integer.MAX_VALUE - 1, 12};
        for (int at : far) {
            CHECK.due("fits at x " + at, fair.fits(0, at, 3, false), 0);
            CHECK.due("fits at y " + at, fair.fits(0, 3, at, true), 0);
        }
        CHECK.yes("close 4, 4", fair.close(4, 4, true));
        CHECK.due("a closed cell", fair.fits(0, 2, 3, false), 0);
        CHECK.due("a closed door", fair.fits(0, 3, 2, false), 0);
        CHECK.due("beside it", fair.fits(0, 5, 3, false), 1);
        CHECK.due("door beside it", fair.fits(0, 4, 2, false), 1);
        CHECK.due("fits() lays nothing", fair.count(1), 0);
        CHECK.due("fits() covers nothing", fair.count(3), 119);
    }

    private static void fittingByDoors() {
        FairGround fair = new FairGround();
        fair.ride(4, 1, 0, 0, 0);
        fair.ride(1, 1, 0, 0, 0);
        CHECK.yes("lay", fair.lay(0, 4, 4, false));
        CHECK.due("it lies", fair.fits(0, 4, 7, false), -1);
        CHECK.due("the door of 4 columns is in the second", fair.look(0, 2), 12 * 5 + 5);
        CHECK.due("on another's door", fair.fits(1, 5, 5, false), 0);
        CHECK.due("beside another's door", fair.fits(1, 6, 5, false), 1);
        CHECK.due("its door covered by another", fair.fits(1, 5, 3, false), 0);
        CHECK.due("on another", fair.fits(1, 7, 4, false), 0);

        FairGround one = new FairGround();
        one.ride(3, 1, 0, 0, 0);
        one.ride(1, 1, 0, 0, 0);
        // A door is always below its ride, and cells above it are covered: two doors in one cell
        // would need two rides in the cell above, so the nearest doors lie side by side.
        CHECK.yes("lay 0", one.lay(0, 4, 4, false));
        CHECK.yes("lay 1", one.lay(1, 7, 4, false));
        CHECK.due("two doors in a row", one.look(1, 2) - one.look(0, 2), 2);

        FairGround gate = new FairGround();
        gate.ride(1, 1, 0, 0, 0);
        CHECK.yes("gate(5)", gate.gate(5));
        CHECK.yes("the gate is its door", gate.lay(0, 0, 4, false));
        CHECK.due("the door", gate.look(0, 2), 60);
    }

    private static void fittingByNoise() {
        FairGround fair = new FairGround();
        fair.ride(1, 1, 0, 6, 0);
        fair.ride(1, 1, 0, 4, 0);
        fair.ride(1, 1, 0, 3, 0);
        fair.ride(2, 2, 0, 9, 0);
        CHECK.yes("lay", fair.lay(0, 6, 4, false));
        CHECK.due("10 together, one column between", fair.fits(1, 8, 4, false), 0);
        CHECK.due("10 together, two columns between", fair.fits(1, 9, 4, false), 1);
        CHECK.due("10 together, one column between, left", fair.fits(1, 4, 4, false), 0);
        CHECK.due("10 together, two columns between, left", fair.fits(1, 3, 4, false), 1);
        CHECK.due("10 together, one row between", fair.fits(1, 6, 2, false), 0);
        CHECK.due("10 together, two rows between", fair.fits(1, 6, 1, false), 1);
        CHECK.due("10 together, one row between, below", fair.fits(1, 6, 6, false), 0);
        CHECK.due("10 together, two rows between, below", fair.fits(1, 6, 7, false), 1);
        CHECK.due("10 together, one and one", fair.fits(1, 8, 6, false), 0);
        CHECK.due("10 together, one and two", fair.fits(1, 8, 7, false), 1);
        CHECK.due("9 together, side by side", fair.fits(2, 7, 4, false), 1);
        CHECK.due("wide, one column between", fair.fits(3, 3, 4, false), 0);
        CHECK.due("wide, two columns between", fair.fits(3, 2, 4, false), 1);
        CHECK.due("high, one row between", fair.fits(3, 6, 1, false), 0);
        CHECK.due("high, two rows between", fair.fits(3, 6, 0, false), 1);
    }

    private static void fittingByWays() {
        FairGround fair = new FairGround();
        fair.ride(1, 1, 0, 0, 0);
        fair.ride(1, 1, 0, 0, 0);
        fair.ride(4, 4, 0, 0, 0);
        CHECK.yes("close 1, 0", fair.close(1, 0, true));
        CHECK.yes("lay 0", fair.lay(0, 6, 6, false));
        CHECK.due("in the only way, its door cut off", fair.fits(1, 0, 1, false), 0);
        CHECK.yes("open 1, 0", fair.close(1, 0, false));
        CHECK.due("two ways", fair.fits(1, 0, 1, false), 1);
        for (int x = 0; x < 12; x++) {
            if (x != 5) {
                CHECK.yes("a wall but for a gap", fair.close(x, 4, true));
            }
        }
        CHECK.due("in the gap, 0 cut off", fair.fits(1, 5, 4, false), 0);
        CHECK.due("above the gap, its door in it", fair.fits(1, 5, 3, false), 0);
        CHECK.due("beside the gap", fair.fits(1, 4, 3, false), 0);
        CHECK.due("its door above the wall", fair.fits(1, 4, 2, false), 1);
        CHECK.yes("take 0", fair.take(0));
        CHECK.due("above the gap, nobody cut off, itself is", fair.fits(1, 5, 3, false), 0);
        CHECK.yes("close the gap", fair.close(5, 4, true));
        CHECK.due("beyond the wall", fair.fits(1, 6, 6, false), 0);
        CHECK.due("large, on this side", fair.fits(2, 4, 0, false), 0);
    }

    private static void layingAndTaking() {
        FairGround fair = new FairGround();
        fair.ride(3, 1, 0, 0, 0);
        CHECK.no("lay none such", fair.lay(1, 3, 3, false));
        CHECK.no("lay none such, below", fair.lay(-1, 3, 3, false));
        CHECK.no("lay where it does not fit", fair.lay(0, 0, 0, false));
        CHECK.no("take what does not lie", fair.take(0));
        CHECK.no("take none such", fair.take(1));
        CHECK.no("take none such, below", fair.take(Integer.MIN_VALUE));
        CHECK.yes("lay", fair.lay(0, 5, 2, true));
        for (int y = 0; y < 10; y++) {
            for (int x = 0; x < 12; x++) {
                boolean covered = x == 5 && y >= 2 && y <= 4;
                CHECK.due("turned: cell(" + x + ", " + y + ")", fair.cell(x, y), covered ? 0 : -1);
            }
        }
        CHECK.no("lay what lies", fair.lay(0, 8, 2, false));
        CHECK.due("free cells", fair.count(3), 117);
        CHECK.yes("take", fair.take(0));
        CHECK.no("take again", fair.take(0));
        CHECK.due("free cells", fair.count(3), 120);
        CHECK.yes("lay elsewhere", fair.lay(0, 5, 2, false));
        CHECK.due("its place", fair.look(0, 1), 2 * (24 + 5));
    }

    private static void layingAll() {
        FairGround fair = new FairGround();
        CHECK.due("nobody to lay", fair.layAll(), 0);
        fair.ride(1, 1, 0, 0, 3);
        fair.ride(1, 1, 0, 0, 7);
        fair.ride(1, 1, 0, 0, 3);
        fair.ride(1, 1, 0, 0, 99);
        CHECK.yes("one lies already", fair.lay(0, 9, 8, false));
        CHECK.due("layAll", fair.layAll(), 0);
        CHECK.due("who lay stays", fair.look(0, 1), 2 * (12 * 8 + 9));
        CHECK.due("the greatest rank", fair.look(3, 1), 2);
        CHECK.due("the next", fair.look(1, 1), 4);
        CHECK.due("the least", fair.look(2, 1), 6);

        FairGround equal = new FairGround();
        for (int n = 0; n < 3; n++) {
            equal.ride(1, 1, 0, 0, 50);
        }
        CHECK.due("layAll of one rank", equal.layAll(), 0);
        for (int n = 0; n < 3; n++) {
            CHECK.due("by numbers", equal.look(n, 1), 2 * (n + 1));
        }

        FairGround full = new FairGround();
        for (int n = 0; n < 10; n++) {
            full.ride(4, 4, 0, 0, n == 4 ? 0 : 5);
        }
        int lieNot = full.layAll();
        CHECK.due("those that do not lie", lieNot, 10 - full.count(1));
        CHECK.due("no room for ten", lieNot > 0 ? 1 : 0, 1);
        CHECK.due("the least rank does not lie", full.look(4, 0), 0);
        CHECK.due("again", full.layAll(), lieNot);

        FairGround walled = new FairGround();
        walled.ride(4, 1, 0, 0, 0);
        for (int y = 0; y < 10; y++) {
            walled.close(3, y, true);
        }
        CHECK.due("only turned is there room", walled.layAll(), 0);
        CHECK.due("turned", walled.look(0, 1), 2 * 1 + 1);
        walled.ride(4, 4, 0, 0, 0);
        CHECK.due("no room", walled.layAll(), 1);
    }

    private static void layingAllByRights() {
        FairGround fair = new FairGround();
        fair.ride(2, 1, 0, 0, 1);
        fair.ride(2, 1, 0, 0, 2);
        fair.ride(2, 1, 0, 0, 90);
        CHECK.yes("lay 0", fair.lay(0, 1, 0, false));
        CHECK.yes("lay 1", fair.lay(1, 8, 8, true) || fair.lay(1, 8, 7, true));
        int right = fair.look(1, 1);
        fair.end();
        CHECK.due("layAll", fair.layAll(), 0);
        CHECK.due("a right goes ahead of rank", fair.look(0, 1), 2);
        CHECK.due("a right to a turned place", fair.look(1, 1), right);
        CHECK.due("the rest behind", fair.look(2, 1), 6);

        fair.end();
        CHECK.yes("1, 0 is closed", fair.close(1, 0, true));
        CHECK.due("layAll", fair.layAll(), 0);
        CHECK.due("it keeps its right", fair.look(0, 3), 2);
        CHECK.due("who holds a right that fits, first", fair.look(2, 1), 6);
        CHECK.due("the other at the first place, turned at 2, 0", fair.look(0, 1), 2 * 2 + 1);

        FairGround clash = new FairGround();
        clash.ride(2, 2, 0, 0, 1);
        clash.ride(2, 2, 0, 0, 2);
        clash.lay(0, 4, 4, false);
        clash.end();
        clash.lay(1, 5, 5, false);
        clash.end();
        CHECK.due("two rights", clash.count(4), 2);
        CHECK.due("layAll", clash.layAll(), 0);
        CHECK.due("the greater rank has its right", clash.look(1, 1), 2 * 65);
        CHECK.due("the lesser lies first in the rest", clash.look(0, 1), 2);
    }
}
