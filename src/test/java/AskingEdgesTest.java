/** Promises 20 to 23: the boundary cases of change, look, cell and count, sentence by sentence. */
public final class AskingEdgesTest {
    private static final Check CHECK = new Check();

    public static void main(String[] args) {
        changeNumbers();
        changeItDoesNotLie();
        changeNoSuchPlace();
        changeOnTheGreen();
        changeFirstAndLastPlace();
        changeOpenCellsOnly();
        changeNotTheGate();
        changeACellThatItCoversNow();
        changeWhoWouldHaveToMove();
        changeTheTenthRide();
        changeNineWouldMove();
        changeFewest();
        changeOfEqualOnesTheFirst();
        lookNoneSuch();
        lookNone();
        lookFirstAndLastPlace();
        cellCorners();
        cellOfEachRide();
        countOfMost();
        countOfAnotherWhat();
        CHECK.finish();
    }

    private static FairGround single(int width, int height, int x, int y) {
        FairGround fair = new FairGround();
        fair.ride(width, height, 0, 0, 0);
        CHECK.yes("lay", fair.lay(0, x, y, false));
        return fair;
    }

    private static void change(FairGround fair, int ride, int width, int height, int moved, int place) {
        String call = "change(" + ride + ", " + width + ", " + height + ", ";
        CHECK.due(call + "0)", fair.change(ride, width, height, 0), moved);
        CHECK.due(call + "1)", fair.change(ride, width, height, 1), place);
    }

    private static int place(int x, int y, boolean turned) {
        return 2 * (12 * y + x) + (turned ? 1 : 0);
    }

    private static void changeNumbers() {
        CHECK.sentence("20 change: -1: none such, another size, what (0, 1)");
        FairGround fair = single(1, 1, 5, 5);
        for (int size = -1; size <= 6; size++) {
            boolean good = size >= 1 && size <= 4;
            CHECK.due("width " + size, fair.change(0, size, 1, 0), good ? 0 : -1);
            CHECK.due("height " + size, fair.change(0, 1, size, 0), good ? 0 : -1);
        }
        change(fair, -1, 1, 1, -1, -1);
        change(fair, 1, 1, 1, -1, -1);
        CHECK.due("what -1", fair.change(0, 1, 1, -1), -1);
        CHECK.due("what 2", fair.change(0, 1, 1, 2), -1);
    }

    private static void changeItDoesNotLie() {
        CHECK.sentence("20 change: -1: it does not lie");
        FairGround fair = new FairGround();
        change(fair, 0, 1, 1, -1, -1);
        fair.ride(1, 1, 0, 0, 0);
        change(fair, 0, 1, 1, -1, -1);
        fair.lay(0, 5, 5, false);
        change(fair, 0, 1, 1, 0, place(5, 5, false));
        fair.take(0);
        change(fair, 0, 1, 1, -1, -1);
        fair.lay(0, 5, 5, false);
        fair.end();
        change(fair, 0, 1, 1, -1, -1);
    }

    private static void changeNoSuchPlace() {
        CHECK.sentence("20 change: -2: no such PLACE");
        FairGround fair = single(1, 1, 1, 0);
        Scene.closeAllBut(fair, new int[][] {{0, 0}, {0, 1}, {1, 1}});
        change(fair, 0, 1, 1, 0, place(1, 0, false));
        change(fair, 0, 1, 2, -2, -2);
        change(fair, 0, 2, 1, -2, -2);
        change(fair, 0, 4, 4, -2, -2);
        CHECK.sentence("20 change: another size is -1, not -2");
        change(fair, 0, 5, 5, -1, -1);
    }

    private static void changeOnTheGreen() {
        CHECK.sentence("CHANGE: on the GREEN with its CELLS and DOOR");
        FairGround low = single(1, 1, 5, 8);
        // In row 9 there is no row for the door: only upwards, or to the side.
        change(low, 0, 1, 2, 0, place(5, 7, false));
        low.close(5, 7, true);
        change(low, 0, 1, 2, 0, place(4, 8, true));
        low.close(4, 8, true);
        change(low, 0, 1, 2, 0, place(5, 8, true));
        low.close(6, 8, true);
        change(low, 0, 1, 2, -2, -2);
        FairGround right = single(1, 1, 11, 5);
        right.close(11, 4, true);
        right.close(10, 5, true);
        // Beyond column 11 there is none, nor does the row go on in the next.
        change(right, 0, 2, 1, 0, place(11, 5, true));
        right.close(11, 7, true);
        change(right, 0, 2, 1, -2, -2);
    }

    private static void changeFirstAndLastPlace() {
        CHECK.sentence("20 change: the PLACE: 2 * (12 * y + x), one more if turned");
        FairGround first = new FairGround();
        first.gate(9);
        first.ride(1, 1, 0, 0, 0);
        first.lay(0, 0, 0, false);
        change(first, 0, 1, 1, 0, 0);
        change(first, 0, 4, 4, 0, 0);
        first.close(1, 0, true);
        change(first, 0, 2, 1, 0, 1);
        FairGround last = single(1, 1, 11, 8);
        change(last, 0, 1, 1, 0, place(11, 8, false));
        last.close(11, 7, true);
        last.close(10, 8, true);
        change(last, 0, 1, 1, 0, place(11, 8, false));
        change(last, 0, 1, 2, -2, -2);
        CHECK.sentence("20 change: not turned ahead of turned");
        change(single(2, 2, 5, 5), 0, 3, 3, 0, place(3, 3, false));
    }

    private static void changeOpenCellsOnly() {
        CHECK.sentence("CHANGE: cover open CELLS only, its DOOR be open");
        for (int y = 4; y <= 7; y++) {
            for (int x = 4; x <= 7; x++) {
                FairGround fair = single(1, 1, 5, 5);
                // All but a square of 2 * 2 from 5, 5 on and its door at 5, 7 is closed.
                Scene.closeAllBut(fair, new int[][] {{0, 0}, {0, 1}, {0, 2}, {0, 3}, {0, 4}, {0, 5}, {0, 6}, {0, 7},
                    {1, 7}, {2, 7}, {3, 7}, {4, 7}, {5, 7}, {6, 5}, {6, 6}});
                boolean inSquare = x >= 5 && x <= 6 && y >= 5 && y <= 6;
                boolean door = x == 5 && y == 7;
                change(fair, 0, 2, 2, 0, place(5, 5, false));
                if (fair.cell(x, y) == -1 && fair.close(x, y, true)) {
                    boolean needed = inSquare || door;
                    change(fair, 0, 2, 2, needed ? -2 : 0, needed ? -2 : place(5, 5, false));
                }
            }
        }
    }

    private static void changeNotTheGate() {
        CHECK.sentence("CHANGE: not the GATE; it may be its DOOR");
        FairGround fair = new FairGround();
        fair.gate(4);
        fair.ride(1, 1, 0, 0, 0);
        fair.lay(0, 0, 5, false);
        change(fair, 0, 1, 2, 0, place(0, 5, false));
        fair.take(0);
        fair.lay(0, 0, 3, false);
        change(fair, 0, 1, 2, 0, place(0, 2, false));
        fair.close(0, 2, true);
        change(fair, 0, 1, 2, 0, place(0, 3, true));
    }

    private static void changeACellThatItCoversNow() {
        CHECK.sentence("CHANGE: at least one CELL that it covers now be covered");
        FairGround fair = single(2, 2, 5, 5);
        change(fair, 0, 1, 1, 0, place(5, 5, false));
        change(fair, 0, 4, 4, 0, place(2, 2, false));
        change(fair, 0, 4, 1, 0, place(5, 2, true));
        // Cells of its own that are covered bind nobody: it may lie on its old door, too.
        FairGround walled = single(1, 1, 5, 5);
        for (int[] at : new int[][] {{4, 4}, {5, 4}, {6, 4}, {4, 5}, {6, 5}}) {
            walled.close(at[0], at[1], true);
        }
        change(walled, 0, 1, 4, 0, place(5, 5, false));
        change(walled, 0, 2, 2, -2, -2);
    }

    private static void changeWhoWouldHaveToMove() {
        CHECK.sentence("CHANGE: others, one CELL of which it would cover");
        FairGround cells = corridor();
        CHECK.yes("lay 1", cells.lay(1, 7, 5, false));
        change(cells, 0, 2, 1, 0, place(5, 5, false));
        change(cells, 0, 3, 1, 2, place(5, 5, false));
        CHECK.sentence("CHANGE: or whose DOOR");
        FairGround door = corridor();
        CHECK.yes("lay 1", door.lay(1, 7, 4, false));
        change(door, 0, 2, 1, 0, place(5, 5, false));
        change(door, 0, 3, 1, 2, place(5, 5, false));
        CHECK.sentence("CHANGE: or that cover its DOOR");
        FairGround under = corridor();
        CHECK.yes("lay 1", under.lay(1, 6, 6, false));
        change(under, 0, 2, 1, 0, place(5, 5, false));
        change(under, 0, 3, 1, 2, place(5, 5, false));
        CHECK.sentence("CHANGE: others that lie");
        under.take(1);
        change(under, 0, 3, 1, 0, place(5, 5, false));
        CHECK.sentence("CHANGE: one DOOR for two, or loud neighbours, move nobody");
        FairGround loud = new FairGround();
        loud.ride(1, 1, 0, 9, 0);
        loud.ride(1, 1, 0, 9, 0);
        loud.lay(0, 5, 5, false);
        loud.lay(1, 8, 5, false);
        loud.close(4, 5, true);
        loud.close(5, 4, true);
        loud.close(5, 7, true);
        change(loud, 0, 3, 1, 0, place(5, 5, false));
    }

    /** Ride 0 lies at 5, 5; in its row it can only grow to the right, and neither up nor down. */
    private static FairGround corridor() {
        FairGround fair = single(1, 1, 5, 5);
        fair.ride(1, 1, 0, 0, 0);
        CHECK.yes("close above", fair.close(5, 4, true));
        CHECK.yes("close left", fair.close(4, 5, true));
        CHECK.yes("close below the door", fair.close(5, 7, true));
        CHECK.yes("close two below the door", fair.close(5, 8, true));
        return fair;
    }

    private static void changeTheTenthRide() {
        CHECK.sentence("20 change: the RIDES that would have to move, as bits");
        for (int other = 0; other < 10; other++) {
            int asked = (other + 1) % 10;
            FairGround fair = new FairGround();
            for (int n = 0; n < 10; n++) {
                fair.ride(1, 1, 0, 0, 0);
            }
            fair.lay(asked, 5, 5, false);
            fair.close(5, 4, true);
            fair.close(4, 5, true);
            fair.close(5, 7, true);
            CHECK.yes("lay " + other, fair.lay(other, 6, 5, false));
            change(fair, asked, 2, 1, 1 << other, place(5, 5, false));
        }
    }

    private static void changeNineWouldMove() {
        CHECK.sentence("20 change: all nine others as bits");
        FairGround fair = new FairGround();
        for (int n = 0; n < 10; n++) {
            fair.ride(1, 1, 0, 0, 0);
        }
        // Closed cells leave one place of 4 * 4 over 5, 4: from 4, 3 on. There, three doors of row 2,
        // three rides of row 4 and three of row 6 are in its way.
        int[][] closed = {{4, 2}, {3, 4}, {8, 4}, {4, 7}};
        for (int[] c : closed) {
            CHECK.yes("close", fair.close(c[0], c[1], true));
        }
        int[][] at = {{5, 4}, {5, 2}, {6, 2}, {7, 2}, {4, 4}, {6, 4}, {7, 4}, {5, 6}, {6, 6}, {7, 6}};
        for (int n = 0; n < 10; n++) {
            CHECK.yes("lay " + n, fair.lay(n, at[n][0], at[n][1], false));
        }
        change(fair, 0, 4, 4, 1022, place(4, 3, false));
        fair.take(9);
        change(fair, 0, 4, 4, 510, place(4, 3, false));
    }

    private static void changeFewest() {
        CHECK.sentence("CHANGE: the one with the fewest RIDES that would have to move");
        FairGround fair = new FairGround();
        for (int n = 0; n < 4; n++) {
            fair.ride(1, 1, 0, 0, 0);
        }
        fair.lay(0, 5, 5, false);
        // To the left or to the right, and neither up nor down.
        fair.close(5, 4, true);
        fair.close(5, 7, true);
        CHECK.yes("lay 3 to the right", fair.lay(3, 6, 5, false));
        change(fair, 0, 2, 1, 0, place(4, 5, false));
        CHECK.yes("1 would have its door covered", fair.lay(1, 4, 4, false));
        change(fair, 0, 2, 1, 2, place(4, 5, false));
        CHECK.yes("2 would cover the door", fair.lay(2, 4, 6, false));
        change(fair, 0, 2, 1, 8, place(5, 5, false));
        fair.take(3);
        change(fair, 0, 2, 1, 0, place(5, 5, false));
    }

    private static void changeOfEqualOnesTheFirst() {
        CHECK.sentence("CHANGE: of equal ones the first");
        FairGround fair = new FairGround();
        for (int n = 0; n < 3; n++) {
            fair.ride(1, 1, 0, 0, 0);
        }
        fair.lay(0, 5, 5, false);
        fair.close(5, 4, true);
        fair.close(5, 7, true);
        CHECK.yes("lay 1 to the right", fair.lay(1, 6, 5, false));
        CHECK.yes("lay 2 to the left", fair.lay(2, 4, 5, false));
        change(fair, 0, 2, 1, 4, place(4, 5, false));
        change(fair, 0, 1, 2, 4, place(4, 5, true));
        change(fair, 0, 1, 1, 0, place(5, 5, false));
    }

    private static void lookNoneSuch() {
        CHECK.sentence("21 look: NoSuchElementException: none such");
        FairGround fair = new FairGround();
        for (int n = 0; n < 10; n++) {
            CHECK.noSuchElement(fair, n, 0);
            fair.ride(1, 1, 0, 0, 0);
            CHECK.due("look(" + n + ", 0)", fair.look(n, 0), 0);
        }
        CHECK.noSuchElement(fair, 10, 0);
        CHECK.noSuchElement(fair, -1, 5);
        CHECK.noSuchElement(fair, Integer.MIN_VALUE, 0);
        CHECK.noSuchElement(fair, Integer.MAX_VALUE, 0);
        CHECK.noSuchElement(fair, 0, -1);
        CHECK.noSuchElement(fair, 0, 6);
    }

    private static void look(FairGround fair, int ride, int... due) {
        for (int what = 0; what < due.length; what++) {
            CHECK.due("look(" + ride + ", " + what + ")", fair.look(ride, what), due[what]);
        }
    }

    private static void lookNone() {
        CHECK.sentence("21 look: NONE: it has no PLACE, no DOOR, no RIGHT");
        FairGround fair = new FairGround();
        fair.ride(1, 1, 0, 0, 0);
        look(fair, 0, 0, -1, -1, -1, 0, 0);
        fair.lay(0, 5, 5, false);
        look(fair, 0, 1, 130, 77, -1, 0, 0);
        fair.take(0);
        look(fair, 0, 0, -1, -1, -1, 0, 0);
        fair.lay(0, 5, 5, false);
        fair.end();
        look(fair, 0, 0, -1, -1, 130, 1, 0);
        fair.end();
        look(fair, 0, 0, -1, -1, 130, 1, 1);
        Check.text(fair, "lapse when 1;");
        fair.end();
        look(fair, 0, 0, -1, -1, -1, 0, 0);
    }

    private static void lookFirstAndLastPlace() {
        CHECK.sentence("21 look: its PLACE, told as in change(); its DOOR, 12 * y + x");
        FairGround fair = new FairGround();
        fair.gate(9);
        fair.ride(1, 1, 0, 0, 0);
        fair.ride(4, 2, 0, 0, 0);
        fair.lay(0, 0, 0, false);
        look(fair, 0, 1, 0, 12, -1);
        fair.take(0);
        fair.lay(0, 0, 0, true);
        look(fair, 0, 1, 1, 12, -1);
        fair.take(0);
        fair.lay(0, 0, 8, false);
        look(fair, 0, 1, 192, 108, -1);
        fair.take(0);
        fair.lay(0, 11, 8, true);
        look(fair, 0, 1, 215, 119, -1);
        fair.lay(1, 8, 0, false);
        look(fair, 1, 1, 16, 33, -1);
        fair.take(1);
        fair.lay(1, 10, 1, true);
        look(fair, 1, 1, 45, 70, -1);
        fair.end();
        look(fair, 0, 0, -1, -1, 215, 1, 0);
        look(fair, 1, 0, -1, -1, 45, 1, 0);
    }

    private static void cellCorners() {
        CHECK.sentence("22 cell: -3 none such");
        FairGround fair = new FairGround();
        int[][] corners = {{0, 0}, {11, 0}, {0, 9}, {11, 9}};
        for (int[] at : corners) {
            CHECK.due("cell(" + at[0] + ", " + at[1] + ")", fair.cell(at[0], at[1]), -1);
            int outX = at[0] == 0 ? -1 : 12;
            int outY = at[1] == 0 ? -1 : 10;
            CHECK.due("cell(" + outX + ", " + at[1] + ")", fair.cell(outX, at[1]), -3);
            CHECK.due("cell(" + at[0] + ", " + outY + ")", fair.cell(at[0], outY), -3);
            CHECK.due("cell(" + outX + ", " + outY + ")", fair.cell(outX, outY), -3);
        }
    }

    private static void cellOfEachRide() {
        CHECK.sentence("22 cell: -2 closed, -1 FREE, else the RIDE that covers it");
        FairGround fair = new FairGround();
        for (int n = 0; n < 10; n++) {
            fair.ride(1, 1, 0, 0, 0);
            fair.lay(n, n + 1, 4, false);
            CHECK.due("covered", fair.cell(n + 1, 4), n);
            CHECK.due("its door is FREE", fair.cell(n + 1, 5), -1);
        }
        fair.close(11, 4, true);
        CHECK.due("closed", fair.cell(11, 4), -2);
        CHECK.due("the gate is FREE", fair.cell(0, 0), -1);
        fair.end();
        CHECK.due("FREE in a new YEAR", fair.cell(10, 4), -1);
        CHECK.due("closed in a new YEAR", fair.cell(11, 4), -2);
    }

    private static void countOfMost() {
        CHECK.sentence("23 count: as much as there can be of each");
        FairGround fair = new FairGround();
        for (int n = 0; n < 10; n++) {
            fair.ride(1, 4, 0, 0, 0);
            fair.lay(n, n + 1, 3, false);
        }
        fair.end();
        for (int n = 0; n < 10; n++) {
            fair.lay(n, n + 1, 3, false);
        }
        fair.rate(1000);
        Check.text(fair, "keep when 1;".repeat(16));
        Check.feed(fair, " ".repeat(610));
        int[] due = {10, 10, 1, 80, 10, 16, 600, 40000};
        for (int what = 0; what < due.length; what++) {
            CHECK.due("count(" + what + ")", fair.count(what), due[what]);
        }
        fair.end();
        int[] then = {10, 0, 2, 120, 10, 16, 600, 0};
        for (int what = 0; what < then.length; what++) {
            CHECK.due("count(" + what + ") in a new YEAR", fair.count(what), then[what]);
        }
        FairGround closed = new FairGround();
        Scene.closeAllBut(closed, new int[][] {{0, 0}});
        CHECK.due("FREE CELLS", closed.count(3), 1);
    }

    private static void countOfAnotherWhat() {
        CHECK.sentence("23 count: NONE for another what");
        FairGround fair = new FairGround();
        CHECK.due("count(0)", fair.count(0), 0);
        CHECK.due("count(-1)", fair.count(-1), -1);
        CHECK.due("count(7)", fair.count(7), 0);
        CHECK.due("count(8)", fair.count(8), -1);
        CHECK.due("count(min)", fair.count(Integer.MIN_VALUE), -1);
        CHECK.due("count(max)", fair.count(Integer.MAX_VALUE), -1);
    }
}
