/** Promises 9 and 10: the orders in which wagons can pull on. */
public final class OrdersTest {
    private static final Check CHECK = new Check();

    public static void main(String[] args) {
        nobodyLies();
        upToTen();
        gapsInTheNumbers();
        narrowWays();
        CHECK.finish();
    }

    private static void nobodyLies() {
        FairGround fair = new FairGround();
        CHECK.due("nobody: orders()", fair.orders(), 1);
        CHECK.due("nobody: order(0)", fair.order(0), -1);
        fair.ride(1, 1, 0, 0, 0);
        CHECK.due("a ride that does not lie: orders()", fair.orders(), 1);
        CHECK.due("a ride that does not lie: order(0)", fair.order(0), -1);
    }

    private static void upToTen() {
        FairGround fair = new FairGround();
        int due = 1;
        for (int n = 0; n < 10; n++) {
            fair.ride(1, 1, 0, 0, n);
            CHECK.yes("lay " + n, fair.lay(n, 1 + n, 2, false));
            due *= n + 1;
            CHECK.due("orders() of " + (n + 1), fair.orders(), due);
        }
        for (int i = 0; i < 10; i++) {
            CHECK.due("order(" + i + ")", fair.order(i), i);
        }
        int[] none = {-1, 10, Integer.MIN_VALUE, Integer.MAX_VALUE};
        for (int i : none) {
            CHECK.due("order(" + i + ")", fair.order(i), -1);
        }
    }

    private static void gapsInTheNumbers() {
        FairGround fair = new FairGround();
        for (int n = 0; n < 5; n++) {
            fair.ride(2, 1, 0, 0, 0);
        }
        CHECK.yes("lay 3", fair.lay(3, 2, 2, false));
        CHECK.yes("lay 1", fair.lay(1, 2, 6, false));
        CHECK.due("orders()", fair.orders(), 2);
        CHECK.due("order(0)", fair.order(0), 1);
        CHECK.due("order(1)", fair.order(1), 3);
        CHECK.due("order(2)", fair.order(2), -1);
        fair.take(1);
        CHECK.due("one left: orders()", fair.orders(), 1);
        CHECK.due("one left: order(0)", fair.order(0), 3);
        fair.end();
        CHECK.due("a new year: order(0)", fair.order(0), -1);
    }

    /** A lane one cell wide: what lies beside it never blocks it, so all rows stay orders. */
    private static void narrowWays() {
        FairGround fair = new FairGround();
        for (int n = 0; n < 3; n++) {
            fair.ride(4, 2, 0, 0, 0);
        }
        for (int x = 0; x < 12; x++) {
            CHECK.yes("a wall", fair.close(x, 3, true));
        }
        CHECK.yes("lay 2", fair.lay(2, 1, 0, false));
        CHECK.yes("lay 0", fair.lay(0, 5, 0, false));
        CHECK.no("the lane stays open", fair.close(3, 2, true));
        CHECK.due("orders()", fair.orders(), 2);
        CHECK.due("order(0)", fair.order(0), 0);
        CHECK.due("order(1)", fair.order(1), 2);
    }
}
