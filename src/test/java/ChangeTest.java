/** Promise 20: whom a larger ride would move. */
public final class ChangeTest {
    private static final Check CHECK = new Check();

    public static void main(String[] args) {
        wrongNumbers();
        alone();
        closedCells();
        gateAndEdges();
        whoMoves();
        noiseAndWaysDoNotCount();
        fewestFirst();
        CHECK.finish();
    }

    private static void due(FairGround fair, int ride, int width, int height, int moved, int place) {
        String call = "change(" + ride + ", " + width + ", " + height + ", ";
        CHECK.due(call + "0)", fair.change(ride, width, height, 0), moved);
        CHECK.due(call + "1)", fair.change(ride, width, height, 1), place);
    }

    private static void wrongNumbers() {
        FairGround fair = new FairGround();
        fair.ride(2, 2, 0, 0, 0);
        due(fair, 0, 1, 1, -1, -1);
        fair.lay(0, 4, 4, false);
        int[][] wrong = {{-1, 1, 1, 0}, {1, 1, 1, 0}, {0, 0, 1, 0}, {0, 5, 1, 0}, {0, 1, 0, 0},
            {0, 1, 5, 1}, {0, 1, 1, -1}, {0, 1, 1, 2}, {Integer.MAX_VALUE, 1, 1, 0},
            {0, Integer.MIN_VALUE, 1, 0}, {0, 1, 1, Integer.MAX_VALUE}};
        for (int[] w : wrong) {
            CHECK.due("change" + java.util.Arrays.toString(w), fair.change(w[0], w[1], w[2], w[3]), -1);
        }
        fair.take(0);
        due(fair, 0, 1, 1, -1, -1);
    }

    private static void alone() {
        FairGround fair = new FairGround();
        fair.ride(2, 2, 0, 0, 0);
        fair.lay(0, 4, 4, false);
        // The first place from which one of its cells is covered.
        due(fair, 0, 1, 1, 0, 2 * (48 + 4));
        due(fair, 0, 2, 2, 0, 2 * (36 + 3));
        due(fair, 0, 4, 1, 0, 2 * (12 + 4) + 1);
        due(fair, 0, 1, 4, 0, 2 * (12 + 4));
        due(fair, 0, 4, 4, 0, 2 * (12 + 1));
        CHECK.due("nothing has changed", fair.look(0, 1), 2 * (48 + 4));
        CHECK.due("nothing has changed", fair.count(3), 116);
    }

    private static void closedCells() {
        FairGround fair = new FairGround();
        fair.ride(1, 1, 0, 0, 0);
        fair.lay(0, 4, 4, false);
        fair.close(4, 3, true);
        // Upwards the way is closed; 1 * 2 turned lies from 3, 4 on.
        due(fair, 0, 1, 2, 0, 2 * (48 + 3) + 1);
        fair.close(3, 4, true);
        due(fair, 0, 1, 2, 0, 2 * (48 + 4));
        fair.close(4, 6, true);
        // Downwards its door would be closed; to the right it may lie.
        due(fair, 0, 1, 2, 0, 2 * (48 + 4) + 1);
        fair.close(5, 4, true);
        due(fair, 0, 1, 2, -2, -2);
        due(fair, 0, 1, 1, 0, 2 * (48 + 4));
    }

    private static void gateAndEdges() {
        FairGround fair = new FairGround();
        fair.ride(1, 1, 0, 0, 0);
        fair.lay(0, 1, 0, false);
        due(fair, 0, 2, 1, 0, 2 * 1);
        fair.take(0);
        fair.lay(0, 0, 1, false);
        // Not upwards over the gate.
        due(fair, 0, 1, 2, 0, 2 * 12);
        fair.take(0);
        fair.lay(0, 11, 8, false);
        due(fair, 0, 2, 1, 0, 2 * (12 * 7 + 11) + 1);
        due(fair, 0, 4, 4, 0, 2 * (12 * 5 + 8));
        fair.take(0);
        fair.gate(5);
        fair.lay(0, 0, 4, false);
        // The gate may be its door.
        due(fair, 0, 1, 2, 0, 2 * (12 * 3));
        fair.close(0, 3, true);
        due(fair, 0, 2, 1, 0, 2 * (12 * 4));
    }

    private static void whoMoves() {
        FairGround lane = lane();
        due(lane, 0, 1, 2, 0, 2 * (12 * 4));
        due(lane, 0, 1, 3, 0, 2 * (12 * 3));
        due(lane, 0, 1, 4, 0, 2 * (12 * 2));
        // Ride 1 covers row 2 and has its door in row 3: from there on, its door would be covered.
        CHECK.yes("lay 1", lane.lay(1, 0, 2, false));
        due(lane, 0, 1, 2, 0, 2 * (12 * 4));
        due(lane, 0, 1, 3, 0, 2 * (12 * 4));
        due(lane, 0, 1, 4, 0, 2 * (12 * 4));
        // Ride 2 covers row 8: four cells from row 4 on would have their door there.
        CHECK.yes("lay 2", lane.lay(2, 0, 8, false));
        due(lane, 0, 1, 3, 0, 2 * (12 * 4));
        due(lane, 0, 1, 4, 2, 2 * (12 * 2));
        CHECK.yes("take 1", lane.take(1));
        due(lane, 0, 1, 4, 0, 2 * (12 * 2));
        CHECK.yes("close 0, 4", lane.close(0, 4, true));
        due(lane, 0, 1, 3, 4, 2 * (12 * 5));
        due(lane, 0, 1, 4, 4, 2 * (12 * 5));
    }

    /** Columns 0 and 1 are open, all else is closed; ride 0 lies in row 5 of column 0. */
    private static FairGround lane() {
        FairGround fair = new FairGround();
        for (int n = 0; n < 3; n++) {
            fair.ride(1, 1, 0, 0, 0);
        }
        CHECK.yes("lay 0", fair.lay(0, 0, 5, false));
        for (int y = 0; y < 10; y++) {
            for (int x = 2; x < 12; x++) {
                CHECK.yes("close", fair.close(x, y, true));
            }
        }
        return fair;
    }

    private static void noiseAndWaysDoNotCount() {
        FairGround loud = new FairGround();
        loud.ride(1, 1, 0, 9, 0);
        loud.ride(1, 1, 0, 9, 0);
        loud.lay(0, 4, 4, false);
        loud.lay(1, 7, 4, false);
        loud.close(3, 4, true);
        loud.close(4, 3, true);
        due(loud, 0, 2, 1, 0, 2 * (48 + 4));

        FairGround lane = lane();
        CHECK.yes("close 0, 4", lane.close(0, 4, true));
        // Its door would be cut off from the gate.
        due(lane, 0, 2, 1, 0, 2 * (12 * 5));
    }

    private static void fewestFirst() {
        FairGround fair = new FairGround();
        for (int n = 0; n < 3; n++) {
            fair.ride(2, 1, 0, 0, 0);
        }
        fair.lay(0, 4, 4, false);
        fair.lay(1, 3, 2, false);
        fair.lay(2, 6, 4, false);
        // 1 covers 3 and 4 of row 2, its door is 3, 3; 2 covers 6 and 7 of row 4, its door is 6, 5.
        // Turned from 4, 2 on, one would move; from 5, 2 on, nobody.
        due(fair, 0, 3, 1, 0, 2 * (24 + 5) + 1);
        due(fair, 0, 2, 3, 0, 2 * (36 + 4));
        fair.close(3, 4, true);
        fair.close(4, 6, true);
        fair.close(5, 3, true);
        due(fair, 0, 4, 1, 0, 2 * (48 + 5) + 1);
        due(fair, 0, 3, 1, 0, 2 * (48 + 5) + 1);
        fair.close(5, 6, true);
        // Now either 1, turned and upwards, or 2, to the right, would move: the first place.
        due(fair, 0, 4, 1, 2, 2 * (12 + 4) + 1);
        due(fair, 0, 3, 1, 2, 2 * (24 + 4) + 1);
        fair.take(1);
        due(fair, 0, 3, 1, 0, 2 * (24 + 4) + 1);
    }
}
