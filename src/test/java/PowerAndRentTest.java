/** Promises 15 to 19: lines of power cut by rank, and rents parted. */
public final class PowerAndRentTest {
    private static final Check CHECK = new Check();

    public static void main(String[] args) {
        wrongNumbers();
        linesByDoor();
        leastRankGoesDark();
        darkAsLongAsTooMuchIsWanted();
        rates();
        shares();
        restsAreParted();
        CHECK.finish();
    }

    private static void wrongNumbers() {
        FairGround fair = new FairGround();
        int[] noThird = {-1, 3, Integer.MIN_VALUE, Integer.MAX_VALUE};
        for (int n : noThird) {
            CHECK.no("bears(" + n + ", 5)", fair.bears(n, 5));
            CHECK.no("share(" + n + ", 5)", fair.share(n, 5));
            CHECK.due("rent(" + n + ")", fair.rent(n), -1);
            CHECK.due("lit(" + n + ")", fair.lit(n), -1);
        }
        int[] wrong = {-1, 1001, Integer.MIN_VALUE, Integer.MAX_VALUE};
        for (int n : wrong) {
            CHECK.no("bears(0, " + n + ")", fair.bears(0, n));
            CHECK.no("rate(" + n + ")", fair.rate(n));
            CHECK.no("share(0, " + n + ")", fair.share(0, n));
        }
        CHECK.no("share(0, 0)", fair.share(0, 0));
        int[] right = {1, 1000};
        for (int n : right) {
            CHECK.yes("bears(2, " + n + ")", fair.bears(2, n));
            CHECK.yes("rate(" + n + ")", fair.rate(n));
            CHECK.yes("share(2, " + n + ")", fair.share(2, n));
        }
        CHECK.yes("bears(0, 0)", fair.bears(0, 0));
        CHECK.yes("rate(0)", fair.rate(0));
    }

    private static void linesByDoor() {
        FairGround fair = new FairGround();
        fair.ride(4, 1, 1, 0, 0);
        CHECK.due("it does not lie", fair.lit(0), -1);
        // The door of four columns is below the second: at x 2 in column 3, at x 3 in column 4.
        int[][] xAndLine = {{2, 0}, {3, 1}, {6, 1}, {7, 2}, {8, 2}};
        for (int[] at : xAndLine) {
            CHECK.yes("lay at " + at[0], fair.lay(0, at[0], 4, false));
            for (int line = 0; line < 3; line++) {
                fair.bears(line, 0);
                CHECK.due("at " + at[0] + ", line " + line, fair.lit(0), line == at[1] ? 0 : 1);
                fair.bears(line, 1);
            }
            CHECK.due("it bears just enough", fair.lit(0), 1);
            fair.take(0);
            CHECK.due("taken", fair.lit(0), -1);
        }
    }

    /** Rides of one cell, side by side in row 4 from column 0 on, all on line 0. */
    private static FairGround sideBySide(int[] powers, int[] ranks) {
        FairGround fair = new FairGround();
        for (int n = 0; n < powers.length; n++) {
            fair.ride(1, 1, powers[n], 0, ranks[n]);
            CHECK.yes("lay " + n, fair.lay(n, n, 4, false));
        }
        return fair;
    }

    private static void isLit(FairGround fair, int line, int bears, int... due) {
        CHECK.yes("bears(" + line + ", " + bears + ")", fair.bears(line, bears));
        for (int n = 0; n < due.length; n++) {
            CHECK.due("bears " + bears + ": lit(" + n + ")", fair.lit(n), due[n]);
        }
    }

    private static void leastRankGoesDark() {
        FairGround fair = sideBySide(new int[] {30, 30, 30, 30}, new int[] {5, 2, 9, 2});
        CHECK.due("a line bears 100 at first: 120 is more", fair.lit(3), 0);
        CHECK.due("the other of the same rank is lit", fair.lit(1), 1);
        isLit(fair, 0, 120, 1, 1, 1, 1);
        isLit(fair, 0, 119, 1, 1, 1, 0);
        isLit(fair, 0, 90, 1, 1, 1, 0);
        isLit(fair, 0, 89, 1, 0, 1, 0);
        isLit(fair, 0, 59, 0, 0, 1, 0);
        isLit(fair, 0, 29, 0, 0, 0, 0);
        isLit(fair, 0, 1000, 1, 1, 1, 1);
        isLit(fair, 0, 89, 1, 0, 1, 0);
        fair.take(2);
        CHECK.due("one less: lit again", fair.lit(1), 1);
    }

    private static void darkAsLongAsTooMuchIsWanted() {
        FairGround fair = sideBySide(new int[] {0, 10, 100, 0}, new int[] {1, 2, 3, 4});
        isLit(fair, 0, 110, 1, 1, 1, 1);
        isLit(fair, 0, 109, 0, 0, 1, 1);
        isLit(fair, 0, 50, 0, 0, 0, 1);
        isLit(fair, 0, 0, 0, 0, 0, 1);
        fair.ride(1, 1, 100, 0, 0);
        CHECK.yes("another line", fair.lay(4, 4, 4, false));
        CHECK.due("bears 100 at first", fair.lit(4), 1);
        CHECK.due("and does not weigh on line 0", fair.lit(3), 1);
    }

    private static void rates() {
        FairGround fair = new FairGround();
        fair.ride(3, 2, 0, 0, 0);
        fair.ride(4, 4, 0, 0, 0);
        CHECK.due("nobody lies", fair.count(7), 0);
        fair.lay(0, 1, 1, true);
        CHECK.due("rate 1 at first", fair.count(7), 6);
        fair.lay(1, 6, 4, false);
        CHECK.due("two", fair.count(7), 22);
        fair.rate(1000);
        CHECK.due("rate 1000", fair.count(7), 22000);
        fair.rate(0);
        CHECK.due("rate 0", fair.count(7), 0);
        CHECK.due("rent of nothing", fair.rent(0), 0);
        fair.rate(7);
        fair.take(1);
        CHECK.due("taken", fair.count(7), 42);
        fair.end();
        CHECK.due("a new year", fair.count(7), 0);
    }

    private static void shares() {
        FairGround fair = new FairGround();
        fair.ride(4, 4, 0, 0, 0);
        fair.lay(0, 4, 4, false);
        rents(fair, 6, 5, 5);
        fair.share(1, 2);
        rents(fair, 4, 8, 4);
        fair.share(0, 1000);
        fair.share(1, 1000);
        fair.share(2, 1000);
        rents(fair, 6, 5, 5);
        fair.rate(1000);
        rents(fair, 5334, 5333, 5333);
    }

    private static void rents(FairGround fair, int... due) {
        for (int holder = 0; holder < 3; holder++) {
            CHECK.due("rent(" + holder + ")", fair.rent(holder), due[holder]);
        }
    }

    private static void restsAreParted() {
        FairGround fair = new FairGround();
        fair.ride(1, 1, 0, 0, 0);
        fair.lay(0, 4, 4, false);
        fair.share(0, 1);
        fair.share(1, 2);
        fair.share(2, 3);
        rents(fair, 0, 0, 1);
        fair.rate(2);
        rents(fair, 0, 1, 1);
        fair.rate(4);
        // 4/6, 8/6, 12/6: rests 4, 2, 0.
        rents(fair, 1, 1, 2);
        fair.rate(5);
        // 5/6, 10/6, 15/6: rests 5, 4, 3 and two are left.
        rents(fair, 1, 2, 2);
        fair.share(0, 3);
        fair.share(1, 3);
        fair.share(2, 1);
        fair.rate(1);
        rents(fair, 1, 0, 0);
        fair.rate(3);
        // 9/7, 9/7, 3/7: rests 2, 2, 3.
        rents(fair, 1, 1, 1);
        fair.share(0, 1);
        // 3/7, 9/7, 9/7 at 3: rests 3, 2, 2 with the small share first.
        fair.share(2, 3);
        rents(fair, 1, 1, 1);
        fair.share(0, 1000);
        fair.share(1, 1);
        fair.share(2, 1);
        fair.rate(1000);
        // 1000000/1002 = 998 rest 4; 1000/1002 = 0 rest 1000, twice.
        rents(fair, 998, 1, 1);
    }
}
