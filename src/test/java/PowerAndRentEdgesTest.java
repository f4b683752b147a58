/** Promises 15 to 19: the boundary cases of bears, lit, rate, share and rent, sentence by sentence. */
public final class PowerAndRentEdgesTest {
    private static final Check CHECK = new Check();
    private static final int[] FAR = {-1, Integer.MIN_VALUE, Integer.MAX_VALUE};

    public static void main(String[] args) {
        bearsNoSuchLine();
        bearsNumbers();
        bears100AtFirst();
        litNoneSuch();
        litByTheDoorsColumn();
        litWantMoreThanItBears();
        litTenOnALine();
        litLeastRank();
        litGreatestNumber();
        litWithoutPower();
        litAsThingsAre();
        rateNumbers();
        rate1AtFirst();
        shareNoneSuch();
        shareNumbers();
        share1AtFirst();
        rentNoneSuch();
        rentOfNothing();
        rentGreatestRests();
        rentOfEqualRestsTheLeast();
        rentOfTheGreatestNumbers();
        CHECK.finish();
    }

    /** Rides of one cell and power, side by side in row 4 from column x on. */
    private static FairGround row(int x, int[] powers, int[] ranks) {
        FairGround fair = new FairGround();
        for (int n = 0; n < powers.length; n++) {
            fair.ride(1, 1, powers[n], 0, ranks[n]);
            CHECK.yes("lay " + n, fair.lay(n, x + n, 4, false));
        }
        return fair;
    }

    private static void lit(FairGround fair, int... due) {
        for (int n = 0; n < due.length; n++) {
            CHECK.due("lit(" + n + ")", fair.lit(n), due[n]);
        }
    }

    private static void rents(FairGround fair, int... due) {
        for (int holder = 0; holder < 3; holder++) {
            CHECK.due("rent(" + holder + ")", fair.rent(holder), due[holder]);
        }
    }

    private static void bearsNoSuchLine() {
        CHECK.sentence("15 bears: false: no such line (0 .. 2)");
        FairGround fair = new FairGround();
        for (int line = 0; line < 3; line++) {
            CHECK.yes("bears(" + line + ", 7)", fair.bears(line, 7));
        }
        CHECK.no("bears(3, 7)", fair.bears(3, 7));
        for (int line : FAR) {
            CHECK.no("bears(" + line + ", 7)", fair.bears(line, 7));
        }
    }

    private static void bearsNumbers() {
        CHECK.sentence("15 bears: 0 .. 1000; false: another number");
        for (int line = 0; line < 3; line++) {
            FairGround fair = row(4 * line, new int[] {1}, new int[] {0});
            CHECK.yes("0", fair.bears(line, 0));
            lit(fair, 0);
            CHECK.no("1001", fair.bears(line, 1001));
            lit(fair, 0);
            CHECK.yes("1000", fair.bears(line, 1000));
            lit(fair, 1);
            for (int power : FAR) {
                CHECK.no("bears(" + line + ", " + power + ")", fair.bears(line, power));
                lit(fair, 1);
            }
        }
    }

    private static void bears100AtFirst() {
        CHECK.sentence("POWER: each bears 100 at first");
        for (int line = 0; line < 3; line++) {
            FairGround fair = row(4 * line, new int[] {99, 1, 1}, new int[] {0, 1, 2});
            lit(fair, 0, 1, 1);
            fair.take(2);
            lit(fair, 1, 1);
        }
    }

    private static void litNoneSuch() {
        CHECK.sentence("16 lit: NONE: it doesn't lie, none such");
        FairGround fair = new FairGround();
        CHECK.due("no rides", fair.lit(0), -1);
        for (int n = 0; n < 10; n++) {
            fair.ride(1, 1, 0, 0, 0);
            CHECK.due("it doesn't lie", fair.lit(n), -1);
            fair.lay(n, n + 1, 4, false);
            CHECK.due("it lies", fair.lit(n), 1);
            CHECK.due("none such", fair.lit(n + 1), -1);
        }
        for (int ride : FAR) {
            CHECK.due("lit(" + ride + ")", fair.lit(ride), -1);
        }
        fair.take(3);
        CHECK.due("it lies no more", fair.lit(3), -1);
        fair.end();
        CHECK.due("in a new YEAR", fair.lit(9), -1);
    }

    private static void litByTheDoorsColumn() {
        CHECK.sentence("POWER: three lines, for columns 0 .. 3, 4 .. 7, 8 .. 11: the line of its DOOR's column");
        for (int wide = 1; wide <= 4; wide++) {
            for (int x = 0; x + wide <= 12; x++) {
                FairGround fair = new FairGround();
                fair.ride(2, wide, 50, 0, 0);
                CHECK.yes("lay at " + x, fair.lay(0, x, 4, true));
                int door = x + (wide - 1) / 2;
                for (int line = 0; line < 3; line++) {
                    fair.bears(line, 49);
                    CHECK.due("door in " + door + ", line " + line, fair.lit(0), line == door / 4 ? 0 : 1);
                    fair.bears(line, 50);
                }
            }
        }
    }

    private static void litWantMoreThanItBears() {
        CHECK.sentence("POWER: as long as those LIT want more than it bears");
        FairGround fair = row(0, new int[] {100, 60, 40}, new int[] {3, 2, 1});
        int[][] bearsAndLit = {{200, 1, 1, 1}, {199, 1, 1, 0}, {160, 1, 1, 0}, {159, 1, 0, 0}, {100, 1, 0, 0},
            {99, 0, 0, 0}, {0, 0, 0, 0}, {1000, 1, 1, 1}};
        for (int[] b : bearsAndLit) {
            fair.bears(0, b[0]);
            lit(fair, b[1], b[2], b[3]);
        }
    }

    private static void litTenOnALine() {
        CHECK.sentence("POWER: ten RIDES of 100 on one line that bears 1000");
        FairGround fair = new FairGround();
        for (int n = 0; n < 10; n++) {
            fair.ride(1, 1, 100, 0, 99);
            CHECK.yes("lay " + n, fair.lay(n, 4 + n % 4, 1 + 3 * (n / 4), false));
        }
        fair.bears(1, 1000);
        lit(fair, 1, 1, 1, 1, 1, 1, 1, 1, 1, 1);
        fair.bears(1, 999);
        lit(fair, 1, 1, 1, 1, 1, 1, 1, 1, 1, 0);
        fair.bears(1, 100);
        lit(fair, 1, 0, 0, 0, 0, 0, 0, 0, 0, 0);
        fair.bears(1, 99);
        lit(fair, 0, 0, 0, 0, 0, 0, 0, 0, 0, 0);
    }

    private static void litLeastRank() {
        CHECK.sentence("POWER: the one of the least rank goes dark");
        lit(row(0, new int[] {40, 40, 40}, new int[] {0, 99, 50}), 0, 1, 1);
        lit(row(0, new int[] {40, 40, 40}, new int[] {99, 0, 50}), 1, 0, 1);
        lit(row(0, new int[] {40, 40, 40}, new int[] {50, 99, 0}), 1, 1, 0);
        // Though the other alone would be enough, or would fit in when it is dark.
        lit(row(0, new int[] {1, 100, 20}, new int[] {1, 2, 3}), 0, 0, 1);
    }

    private static void litGreatestNumber() {
        CHECK.sentence("POWER: of one rank the one with the greatest number");
        lit(row(0, new int[] {40, 40, 40}, new int[] {5, 5, 5}), 1, 1, 0);
        lit(row(0, new int[] {40, 40, 40}, new int[] {5, 5, 6}), 1, 0, 1);
        lit(row(0, new int[] {80, 40, 40}, new int[] {5, 5, 5}), 1, 0, 0);
    }

    private static void litWithoutPower() {
        CHECK.sentence("POWER: of those LIT the one of the least rank, though it wants 0");
        lit(row(0, new int[] {0, 60, 60}, new int[] {1, 2, 3}), 0, 0, 1);
        FairGround none = row(0, new int[] {0, 0}, new int[] {0, 0});
        none.bears(0, 0);
        lit(none, 1, 1);
    }

    private static void litAsThingsAre() {
        CHECK.sentence("16 lit: of those that lie, on its line");
        FairGround fair = row(2, new int[] {60, 50, 60, 50}, new int[] {1, 2, 1, 2});
        lit(fair, 0, 1, 0, 1);
        fair.take(1);
        lit(fair, 1, -1, 0, 1);
        fair.take(3);
        lit(fair, 1, -1, 1, -1);
    }

    private static void rateNumbers() {
        CHECK.sentence("17 rate: 0 .. 1000; false: another one");
        FairGround fair = row(0, new int[] {0, 0}, new int[] {0, 0});
        int[][] rateAndRents = {{1000, 2000}, {0, 0}, {1, 2}, {999, 1998}};
        for (int[] r : rateAndRents) {
            CHECK.yes("rate(" + r[0] + ")", fair.rate(r[0]));
            CHECK.due("all RENTS", fair.count(7), r[1]);
            CHECK.no("rate(1001)", fair.rate(1001));
            for (int wrong : FAR) {
                CHECK.no("rate(" + wrong + ")", fair.rate(wrong));
            }
            CHECK.due("all RENTS as before", fair.count(7), r[1]);
        }
    }

    private static void rate1AtFirst() {
        CHECK.sentence("RENTS: area * RATE, 1 at first, of each RIDE that lies");
        for (int width = 1; width <= 4; width++) {
            for (int height = 1; height <= 4; height++) {
                FairGround fair = new FairGround();
                fair.ride(width, height, 0, 0, 0);
                CHECK.due("it does not lie", fair.count(7), 0);
                fair.lay(0, 5, 5, width > 2);
                CHECK.due("it lies", fair.count(7), fair.look(0, 0) * width * height);
                fair.take(0);
                CHECK.due("it lies no more", fair.count(7), 0);
                fair.lay(0, 1, 1, true);
                CHECK.due("turned", fair.count(7), width * height);
            }
        }
    }

    private static void shareNoneSuch() {
        CHECK.sentence("18 share: false: none such (0 .. 2)");
        FairGround fair = row(0, new int[] {0}, new int[] {0});
        fair.rate(12);
        for (int holder = 0; holder < 3; holder++) {
            CHECK.yes("share(" + holder + ", 2)", fair.share(holder, 2));
        }
        CHECK.no("share(3, 2)", fair.share(3, 2));
        for (int holder : FAR) {
            CHECK.no("share(" + holder + ", 2)", fair.share(holder, 2));
        }
        rents(fair, 4, 4, 4);
    }

    private static void shareNumbers() {
        CHECK.sentence("18 share: 1 .. 1000; false: another share");
        for (int holder = 0; holder < 3; holder++) {
            FairGround fair = row(0, new int[] {0}, new int[] {0});
            fair.rate(1000);
            CHECK.yes("1000", fair.share(holder, 1000));
            CHECK.due("1000 of 1002, cut", fair.rent(holder), 998);
            for (int wrong : new int[] {0, 1001, -1, Integer.MIN_VALUE, Integer.MAX_VALUE}) {
                CHECK.no("share(" + holder + ", " + wrong + ")", fair.share(holder, wrong));
                CHECK.due("as before", fair.rent(holder), 998);
            }
            CHECK.yes("1", fair.share(holder, 1));
            CHECK.due("1 of 3", fair.rent(holder), holder == 0 ? 334 : 333);
        }
    }

    private static void share1AtFirst() {
        CHECK.sentence("RENTS: shares, 1 at first");
        FairGround fair = row(0, new int[] {0}, new int[] {0});
        fair.rate(999);
        rents(fair, 333, 333, 333);
    }

    private static void rentNoneSuch() {
        CHECK.sentence("19 rent: NONE: none such");
        FairGround fair = row(0, new int[] {0}, new int[] {0});
        CHECK.due("rent(3)", fair.rent(3), -1);
        for (int holder : FAR) {
            CHECK.due("rent(" + holder + ")", fair.rent(holder), -1);
        }
        rents(fair, 1, 0, 0);
    }

    private static void rentOfNothing() {
        CHECK.sentence("19 rent: as things are: nobody lies, or a RATE of 0");
        FairGround fair = new FairGround();
        rents(fair, 0, 0, 0);
        fair.ride(2, 2, 0, 0, 0);
        rents(fair, 0, 0, 0);
        fair.lay(0, 5, 5, false);
        rents(fair, 2, 1, 1);
        fair.rate(0);
        rents(fair, 0, 0, 0);
        fair.rate(1);
        fair.end();
        rents(fair, 0, 0, 0);
    }

    private static FairGround shared(int sum, int... shares) {
        FairGround fair = row(0, new int[] {0}, new int[] {0});
        fair.rate(sum);
        for (int holder = 0; holder < 3; holder++) {
            fair.share(holder, shares[holder]);
        }
        return fair;
    }

    private static void rentGreatestRests() {
        CHECK.sentence("RENTS: cut; what is left one by one to those with the greatest rests");
        // 7 * 2, 3, 5 / 10: 1 rest 4, 2 rest 1, 3 rest 5.
        rents(shared(7, 2, 3, 5), 1, 2, 4);
        rents(shared(7, 5, 3, 2), 4, 2, 1);
        rents(shared(7, 3, 5, 2), 2, 4, 1);
        // 8 * 3, 3, 4 / 10: 2 rest 4, 2 rest 4, 3 rest 2: one is left.
        rents(shared(8, 3, 3, 4), 3, 2, 3);
        rents(shared(8, 4, 3, 3), 3, 3, 2);
        // 9 * 3, 3, 4 / 10: 2 rest 7, 2 rest 7, 3 rest 6: two are left.
        rents(shared(9, 3, 3, 4), 3, 3, 3);
        rents(shared(9, 4, 3, 3), 3, 3, 3);
        // Nothing is left.
        rents(shared(10, 2, 3, 5), 2, 3, 5);
        rents(shared(20, 5, 3, 2), 10, 6, 4);
    }

    private static void rentOfEqualRestsTheLeast() {
        CHECK.sentence("RENTS: of equal rests the least");
        rents(shared(1, 1, 1, 1), 1, 0, 0);
        rents(shared(2, 1, 1, 1), 1, 1, 0);
        rents(shared(3, 1, 1, 1), 1, 1, 1);
        rents(shared(4, 1, 1, 1), 2, 1, 1);
        rents(shared(1, 1, 2, 2), 0, 1, 0);
        rents(shared(1, 2, 1, 2), 1, 0, 0);
        rents(shared(1, 1000, 1000, 1000), 1, 0, 0);
        // 5 * 2, 1, 1 / 4: 2 rest 2, 1 rest 1, 1 rest 1.
        rents(shared(5, 2, 1, 1), 3, 1, 1);
        // 6 * 2, 1, 1 / 4: 3 rest 0, 1 rest 2, 1 rest 2.
        rents(shared(6, 2, 1, 1), 3, 2, 1);
        rents(shared(6, 1, 1, 2), 2, 1, 3);
        rents(shared(6, 1, 2, 1), 2, 3, 1);
    }

    private static void rentOfTheGreatestNumbers() {
        CHECK.sentence("RENTS: the greatest RATE and shares");
        // Two bands, four rows high and eleven columns wide.
        FairGround fair = new FairGround();
        int[] columns = {1, 5, 9};
        for (int n = 0; n < 6; n++) {
            fair.ride(n % 3 == 2 ? 3 : 4, 4, 0, 0, 0);
            CHECK.yes("lay " + n, fair.lay(n, columns[n % 3], 5 * (n / 3), false));
        }
        fair.rate(1000);
        CHECK.due("all RENTS", fair.count(7), 88000);
        for (int holder = 0; holder < 3; holder++) {
            fair.share(holder, 1000);
        }
        rents(fair, 29334, 29333, 29333);
        fair.share(2, 999);
        // 88000000 / 2999 = 29343 rest 343, 87912000 / 2999 = 29313 rest 2313.
        rents(fair, 29343, 29343, 29314);
        fair.share(0, 1);
        fair.share(1, 1);
        fair.share(2, 1000);
        // 88000 / 1002 = 87 rest 826, twice; 88000000 / 1002 = 87824 rest 352.
        rents(fair, 88, 88, 87824);
    }
}
