/** Promises 5 to 8: the boundary cases of FITS, lay, take and layAll, sentence by sentence. */
public final class LayingEdgesTest {
    private static final Check CHECK = new Check();

    public static void main(String[] args) {
        fitsNoneSuch();
        fitsItLies();
        fitsAllSizesAtTheEdges();
        fitsFarBeyondTheGreen();
        fitsNotOnAClosedCell();
        fitsNotWithAClosedDoor();
        fitsNotOnAnother();
        fitsNotOnTheGate();
        fitsNotOnADoor();
        fitsNotWithACoveredDoor();
        fitsTenOfNoise();
        fitsTwoCellsApart();
        fitsApartOfThoseThatLie();
        fitsItsOwnDoorJoined();
        fitsOtherDoorsJoined();
        fitsWithoutARowsWrap();
        layWhereItFits();
        layOnce();
        takeOnce();
        layAllOfNone();
        layAllFull();
        layAllOrder();
        layAllPlaces();
        layAllFirstAndLastPlace();
        layAllRightsFirst();
        layAllRightThatDoesNotFit();
        CHECK.finish();
    }

    private static FairGround with(int... sizesAndNoise) {
        FairGround fair = new FairGround();
        for (int n = 0; n + 2 < sizesAndNoise.length; n += 3) {
            fair.ride(sizesAndNoise[n], sizesAndNoise[n + 1], 0, sizesAndNoise[n + 2], 0);
        }
        return fair;
    }

    private static void fits(FairGround fair, int due, int ride, int x, int y, boolean turned) {
        CHECK.due("fits(" + ride + ", " + x + ", " + y + ", " + turned + ")", fair.fits(ride, x, y, turned), due);
    }

    private static void fitsNoneSuch() {
        CHECK.sentence("5 fits: NONE: none such");
        FairGround fair = new FairGround();
        fits(fair, -1, 0, 5, 5, false);
        for (int n = 0; n < 10; n++) {
            fits(fair, -1, n, 5, 5, false);
            fair.ride(1, 1, 0, 0, 0);
            fits(fair, 1, n, 5, 5, false);
        }
        fits(fair, -1, 10, 5, 5, false);
        fits(fair, -1, -1, 5, 5, false);
        fits(fair, -1, -1, -1, -1, true);
    }

    private static void fitsItLies() {
        CHECK.sentence("5 fits: NONE: it lies");
        FairGround fair = with(1, 1, 0);
        fair.lay(0, 5, 5, false);
        fits(fair, -1, 0, 5, 5, false);
        fits(fair, -1, 0, 8, 8, false);
        fits(fair, -1, 0, -1, 10, true);
        fair.take(0);
        fits(fair, 1, 0, 5, 5, false);
        fair.lay(0, 5, 5, false);
        fair.end();
        fits(fair, 1, 0, 5, 5, false);
    }

    private static void fitsAllSizesAtTheEdges() {
        CHECK.sentence("FITS: all CELLS are on the GREEN, its DOOR is on the GREEN");
        for (int width = 1; width <= 4; width++) {
            for (int height = 1; height <= 4; height++) {
                FairGround fair = new FairGround();
                fair.gate(9);
                fair.ride(width, height, 0, 0, 0);
                edges(fair, width, height, false);
                edges(fair, height, width, true);
            }
        }
    }

    private static void edges(FairGround fair, int wide, int high, boolean turned) {
        int right = 12 - wide;
        int low = 9 - high;
        fits(fair, 1, 0, 0, 0, turned);
        fits(fair, 1, 0, right, 0, turned);
        fits(fair, 1, 0, right, low, turned);
        fits(fair, 0, 0, -1, 0, turned);
        fits(fair, 0, 0, 3, -1, turned);
        fits(fair, 0, 0, right + 1, 0, turned);
        fits(fair, 0, 0, right + 1, low, turned);
        fits(fair, 0, 0, right, low + 1, turned);
        fits(fair, 0, 0, right, low + 2, turned);
    }

    private static void fitsFarBeyondTheGreen() {
        CHECK.sentence("FITS: on the GREEN, for any number");
        FairGround fair = with(4, 4, 0, 1, 1, 0);
        int[] far = {-4, -12, 12, 13, 24, 120, Integer.MIN_VALUE, Integer.MIN_VALUE + 3, Integer.MAX_VALUE,
            Integer.MAX_VALUE - 1, Integer.MAX_VALUE - 2, Integer.MAX_VALUE - 3, Integer.MAX_VALUE - 4, 357913942,
            -357913942, 1 << 30, -(1 << 30)};
        for (int at : far) {
            for (int ride = 0; ride < 2; ride++) {
                fits(fair, 0, ride, at, 5, false);
                fits(fair, 0, ride, at, 5, true);
                fits(fair, 0, ride, 5, at, false);
                fits(fair, 0, ride, 5, at, true);
                fits(fair, 0, ride, at, at, false);
            }
        }
    }

    private static void fitsNotOnAClosedCell() {
        CHECK.sentence("FITS: all CELLS that it would cover are FREE: open");
        for (int y = 3; y <= 6; y++) {
            for (int x = 4; x <= 8; x++) {
                FairGround fair = with(3, 2, 0);
                fair.close(x, y, true);
                boolean covers = x >= 5 && x <= 7 && (y == 4 || y == 5);
                boolean door = x == 6 && y == 6;
                fits(fair, covers || door ? 0 : 1, 0, 5, 4, false);
            }
        }
    }

    private static void fitsNotWithAClosedDoor() {
        CHECK.sentence("FITS: its DOOR is FREE: open; it is at x + (its width - 1) / 2, cut");
        int[] offsets = {0, 0, 1, 1};
        for (int wide = 1; wide <= 4; wide++) {
            for (int dx = 0; dx < wide; dx++) {
                FairGround fair = with(wide, 2, 0, 2, wide, 0);
                fair.close(4 + dx, 6, true);
                fits(fair, dx == offsets[wide - 1] ? 0 : 1, 0, 4, 4, false);
                fits(fair, dx == offsets[wide - 1] ? 0 : 1, 1, 4, 4, true);
            }
        }
    }

    private static void fitsNotOnAnother() {
        CHECK.sentence("FITS: all CELLS that it would cover are FREE: not covered");
        FairGround fair = with(2, 2, 0, 2, 2, 0);
        fair.lay(0, 5, 5, false);
        // By one cell each, at the four corners; then beside and above it.
        fits(fair, 0, 1, 4, 4, false);
        fits(fair, 0, 1, 6, 4, false);
        fits(fair, 0, 1, 4, 6, false);
        fits(fair, 0, 1, 6, 6, false);
        fits(fair, 0, 1, 5, 5, false);
        fits(fair, 1, 1, 3, 5, false);
        fits(fair, 1, 1, 7, 5, false);
        fits(fair, 1, 1, 6, 7, false);
        fits(fair, 1, 1, 5, 2, false);
    }

    private static void fitsNotOnTheGate() {
        CHECK.sentence("FITS: not the GATE; the GATE may be a DOOR");
        FairGround fair = with(2, 2, 0);
        fair.gate(5);
        fits(fair, 0, 0, 0, 5, false);
        fits(fair, 0, 0, 0, 4, false);
        fits(fair, 1, 0, 1, 4, false);
        fits(fair, 1, 0, 0, 6, false);
        fits(fair, 1, 0, 0, 3, false);
        CHECK.yes("lay, the gate its door", fair.lay(0, 0, 3, false));
        CHECK.due("its door", fair.look(0, 2), 60);
        fair.end();
        fair.gate(0);
        fits(fair, 1, 0, 0, 4, false);
        fits(fair, 0, 0, 0, 0, false);
    }

    private static void fitsNotOnADoor() {
        CHECK.sentence("FITS: no other RIDE's DOOR");
        FairGround fair = with(3, 1, 0, 1, 1, 0, 4, 4, 0);
        fair.lay(0, 4, 2, false);
        // The door is 5, 3.
        fits(fair, 1, 1, 4, 3, false);
        fits(fair, 0, 1, 5, 3, false);
        fits(fair, 1, 1, 6, 3, false);
        fits(fair, 1, 1, 5, 4, false);
        fits(fair, 0, 2, 5, 3, false);
        fits(fair, 0, 2, 2, 3, false);
        fits(fair, 1, 2, 6, 3, false);
        fits(fair, 1, 2, 1, 3, false);
        fair.take(0);
        fits(fair, 1, 1, 5, 3, false);
    }

    private static void fitsNotWithACoveredDoor() {
        CHECK.sentence("FITS: its DOOR is FREE: not covered");
        FairGround fair = with(3, 1, 0, 1, 1, 0);
        fair.lay(0, 4, 5, false);
        fits(fair, 1, 1, 3, 4, false);
        fits(fair, 0, 1, 4, 4, false);
        fits(fair, 0, 1, 5, 4, false);
        fits(fair, 0, 1, 6, 4, false);
        fits(fair, 1, 1, 7, 4, false);
    }

    private static void fitsTenOfNoise() {
        CHECK.sentence("FITS: with which its noise makes 10 or more");
        for (int one = 0; one <= 9; one++) {
            for (int other = 0; other <= 9; other++) {
                FairGround fair = with(1, 1, one, 1, 1, other);
                fair.lay(0, 5, 5, false);
                fits(fair, one + other >= 10 ? 0 : 1, 1, 6, 5, false);
                fits(fair, 1, 1, 8, 5, false);
            }
        }
    }

    private static void fitsTwoCellsApart() {
        CHECK.sentence("FITS: two columns or two rows of CELLS between their nearest ones, or more");
        for (int y = 0; y <= 8; y++) {
            for (int x = 0; x <= 11; x++) {
                FairGround fair = with(2, 1, 5, 1, 1, 5);
                fair.gate(9);
                fair.lay(0, 5, 4, false);
                boolean apart = x <= 2 || x >= 9 || y <= 1 || y >= 7;
                fits(fair, apart ? 1 : 0, 1, x, y, false);
            }
        }
        for (int y = 1; y <= 7; y++) {
            for (int x = 1; x <= 10; x++) {
                FairGround fair = with(1, 2, 9, 2, 1, 1);
                fair.gate(9);
                fair.lay(0, 5, 4, true);
                // Turned, it covers x and one more column; ride 1, turned, two rows.
                boolean apart = x <= 2 || x >= 9 || y <= 0 || y >= 7;
                fits(fair, apart ? 1 : 0, 1, x, y, true);
            }
        }
    }

    private static void fitsApartOfThoseThatLie() {
        CHECK.sentence("FITS: from each other RIDE that lies");
        FairGround fair = with(1, 1, 9, 1, 1, 9, 1, 1, 0);
        fits(fair, 1, 1, 6, 5, false);
        fair.lay(2, 2, 2, false);
        fair.lay(0, 5, 5, false);
        fits(fair, 0, 1, 6, 5, false);
        fair.take(0);
        fits(fair, 1, 1, 6, 5, false);
        CHECK.yes("lay, loud itself", fair.lay(1, 6, 5, false));
        fits(fair, 0, 0, 5, 5, false);
    }

    private static void fitsItsOwnDoorJoined() {
        CHECK.sentence("FITS: each DOOR (its own, too) were joined to the GATE");
        FairGround fair = with(1, 1, 0);
        // Its door would be 5, 6.
        fair.close(4, 6, true);
        fair.close(6, 6, true);
        fits(fair, 1, 0, 5, 5, false);
        fair.close(5, 7, true);
        fits(fair, 0, 0, 5, 5, false);
        fair.close(4, 6, false);
        fits(fair, 1, 0, 5, 5, false);
        // Where the gate is walled in, no door but the gate itself is joined to it.
        FairGround walled = with(1, 1, 0);
        walled.gate(1);
        walled.close(0, 2, true);
        walled.close(1, 1, true);
        fits(walled, 1, 0, 0, 0, false);
        fits(walled, 1, 0, 5, 5, false);
        walled.close(1, 0, true);
        fits(walled, 1, 0, 0, 0, false);
        fits(walled, 0, 0, 5, 5, false);
    }

    private static void fitsOtherDoorsJoined() {
        CHECK.sentence("FITS: were it there, each DOOR were joined to the GATE");
        FairGround fair = with(1, 1, 0, 1, 1, 0, 1, 1, 0);
        fair.lay(0, 2, 5, false);
        fair.lay(1, 8, 5, false);
        int[] doors = {2, 8};
        for (int x : doors) {
            fair.close(x - 1, 6, true);
            fits(fair, 1, 2, x, 7, false);
            fair.close(x + 1, 6, true);
            // The last cell that joins the door; its own door would be joined.
            fits(fair, 0, 2, x, 7, false);
            fair.close(x - 1, 6, false);
        }
    }

    private static void fitsWithoutARowsWrap() {
        CHECK.sentence("joined up, down, left and right: no row's end to the next one's start, no corner");
        FairGround fair = with(1, 1, 0);
        fair.gate(9);
        // A wall but for 11, 4: from there, rows 0 to 4 can be reached by the end of a row alone.
        for (int x = 0; x < 12; x++) {
            fair.close(x, x == 11 ? 5 : 4, true);
        }
        fits(fair, 0, 0, 5, 0, false);
        fits(fair, 0, 0, 11, 3, false);
        fits(fair, 1, 0, 10, 5, false);
        fair.close(11, 5, false);
        fits(fair, 1, 0, 5, 0, false);
    }

    private static void layWhereItFits() {
        CHECK.sentence("6 lay: true where it FITS, false where it doesn't, nothing between");
        int laid = 0;
        for (int place = 0; place < 240; place++) {
            FairGround fair = with(3, 2, 5, 2, 4, 5);
            fair.gate(4);
            fair.lay(0, 4, 3, false);
            int x = place / 2 % 12;
            int y = place / 24;
            int fits = fair.fits(1, x, y, place % 2 == 1);
            CHECK.due("lay at " + place, fair.lay(1, x, y, place % 2 == 1) ? 1 : 0, fits);
            CHECK.due("it lies", fair.look(1, 0), fits);
            CHECK.due("at its place", fair.look(1, 1), fits == 1 ? place : -1);
            CHECK.due("FREE CELLS", fair.count(3), fits == 1 ? 106 : 114);
            laid += fits;
        }
        CHECK.yes("some fit", laid > 0 && laid < 240);
    }

    private static void layOnce() {
        CHECK.sentence("6 lay: false: it lies");
        FairGround fair = with(1, 1, 0);
        CHECK.yes("lay", fair.lay(0, 5, 5, false));
        CHECK.no("at the same place", fair.lay(0, 5, 5, false));
        CHECK.no("at another", fair.lay(0, 8, 8, false));
        CHECK.due("its place", fair.look(0, 1), 2 * 65);
        CHECK.due("the other is free", fair.cell(8, 8), -1);
        fair.take(0);
        CHECK.yes("again", fair.lay(0, 8, 8, false));
        fair.end();
        CHECK.yes("and in the next YEAR", fair.lay(0, 8, 8, false));
    }

    private static void takeOnce() {
        CHECK.sentence("7 take: false: it doesn't lie");
        FairGround fair = with(2, 2, 0, 1, 1, 0);
        CHECK.no("never laid", fair.take(0));
        fair.lay(0, 5, 5, false);
        CHECK.no("the other", fair.take(1));
        CHECK.yes("take", fair.take(0));
        CHECK.due("its cells are free", fair.count(3), 120);
        CHECK.no("again", fair.take(0));
        fair.lay(0, 5, 5, false);
        fair.end();
        CHECK.no("in a new YEAR", fair.take(0));
    }

    private static void layAllOfNone() {
        CHECK.sentence("8 layAll: no RIDES, or all lie: 0");
        FairGround fair = new FairGround();
        CHECK.due("no rides", fair.layAll(), 0);
        fair.ride(1, 1, 0, 0, 0);
        fair.lay(0, 7, 7, false);
        CHECK.due("all lie", fair.layAll(), 0);
        CHECK.due("who lies stays", fair.look(0, 1), 2 * 91);
    }

    private static void layAllFull() {
        CHECK.sentence("8 layAll: without a PLACE it does not lie: how many do not lie then");
        FairGround fair = new FairGround();
        // Two cells over their doors are open: room for two of ten.
        Scene.closeAllBut(fair, new int[][] {{0, 0}, {0, 1}, {1, 1}, {2, 1}, {1, 0}, {2, 0}});
        for (int n = 0; n < 10; n++) {
            CHECK.due("ride", fair.ride(1, 1, 0, 0, n), n);
        }
        CHECK.due("layAll()", fair.layAll(), 8);
        CHECK.due("the greatest rank", fair.look(9, 1), 2);
        CHECK.due("the next", fair.look(8, 1), 4);
        CHECK.due("no other", fair.look(7, 0), 0);
        CHECK.due("again", fair.layAll(), 8);
        fair.take(9);
        CHECK.due("one place is free: the same one has it", fair.layAll(), 8);
        CHECK.due("the greatest rank", fair.look(9, 1), 2);

        FairGround ten = new FairGround();
        for (int n = 0; n < 10; n++) {
            ten.ride(1, 1, 0, 0, 0);
        }
        CHECK.due("ten of one cell", ten.layAll(), 0);
        CHECK.due("the last of them", ten.look(9, 1), 20);
    }

    private static void layAllOrder() {
        CHECK.sentence("ALL LAID: by rank, the greater first, of one rank by numbers");
        FairGround fair = new FairGround();
        int[] ranks = {0, 99, 50, 99, 0, 1, 98, 50};
        for (int rank : ranks) {
            fair.ride(1, 1, 0, 0, rank);
        }
        CHECK.due("layAll()", fair.layAll(), 0);
        int[] row = {1, 3, 6, 2, 7, 5, 0, 4};
        for (int n = 0; n < row.length; n++) {
            CHECK.due("place of " + row[n], fair.look(row[n], 1), 2 * (n + 1));
        }
    }

    private static void layAllPlaces() {
        CHECK.sentence("PLACES are in the order of y, then x, not turned ahead of turned");
        FairGround fair = with(2, 1, 0);
        CHECK.due("layAll()", fair.layAll(), 0);
        CHECK.due("not turned", fair.look(0, 1), 2);
        fair.take(0);
        fair.close(2, 0, true);
        CHECK.due("layAll()", fair.layAll(), 0);
        CHECK.due("turned at 1, 0 ahead of 3, 0", fair.look(0, 1), 3);
        fair.take(0);
        fair.close(1, 1, true);
        CHECK.due("layAll()", fair.layAll(), 0);
        CHECK.due("3, 0 ahead of 0, 1", fair.look(0, 1), 6);
    }

    private static void layAllFirstAndLastPlace() {
        CHECK.sentence("ALL LAID: at the first PLACE where it FITS, be it the first or the last of all");
        FairGround first = with(1, 1, 0);
        first.gate(9);
        CHECK.due("layAll()", first.layAll(), 0);
        CHECK.due("the first PLACE", first.look(0, 1), 0);
        first.end();
        CHECK.due("a RIGHT to it", first.look(0, 3), 0);
        CHECK.due("RIGHTS", first.count(4), 1);
        first.ride(1, 1, 0, 0, 99);
        CHECK.due("layAll()", first.layAll(), 0);
        CHECK.due("the RIGHT goes ahead of rank", first.look(0, 1), 0);
        CHECK.due("the other", first.look(1, 1), 2);

        int[][] open = {{0, 9}, {1, 9}, {2, 9}, {3, 9}, {4, 9}, {5, 9}, {6, 9}, {7, 9}, {8, 9}, {9, 9}, {10, 9},
            {11, 9}, {11, 8}, {11, 7}};
        FairGround last = with(1, 1, 0);
        last.gate(9);
        Scene.closeAllBut(last, open);
        CHECK.due("FREE CELLS", last.count(3), 14);
        last.close(11, 7, true);
        CHECK.due("layAll()", last.layAll(), 0);
        CHECK.due("the last PLACE", last.look(0, 1), 2 * 107);
        FairGround turned = with(2, 1, 0);
        turned.gate(9);
        Scene.closeAllBut(turned, open);
        CHECK.due("layAll()", turned.layAll(), 0);
        CHECK.due("the last PLACE, turned", turned.look(0, 1), 2 * 95 + 1);
    }

    private static void layAllRightsFirst() {
        CHECK.sentence("ALL LAID: those with a RIGHT first, each at that PLACE if it FITS there");
        FairGround fair = new FairGround();
        for (int n = 0; n < 4; n++) {
            fair.ride(1, 2, 0, 0, 10 * n);
        }
        fair.lay(0, 1, 0, true);
        fair.lay(1, 3, 0, false);
        fair.end();
        CHECK.due("layAll()", fair.layAll(), 0);
        CHECK.due("the RIGHT of the least rank", fair.look(0, 1), 3);
        CHECK.due("the other's RIGHT", fair.look(1, 1), 6);
        CHECK.due("then the greatest rank", fair.look(3, 1), 8);
        CHECK.due("then the next", fair.look(2, 1), 10);

        CHECK.sentence("ALL LAID: RIGHTS by rank, the greater first, of one rank by numbers");
        for (int greater = 0; greater < 2; greater++) {
            FairGround clash = new FairGround();
            clash.ride(1, 1, 0, 0, 50);
            clash.ride(1, 1, 0, 0, 50 + greater);
            clash.lay(0, 5, 5, false);
            clash.end();
            clash.lay(1, 5, 5, false);
            clash.end();
            CHECK.due("layAll()", clash.layAll(), 0);
            CHECK.due("who has the PLACE", clash.cell(5, 5), greater);
            CHECK.due("the other has the first", clash.cell(1, 0), 1 - greater);
        }
    }

    private static void layAllRightThatDoesNotFit() {
        CHECK.sentence("ALL LAID: then, in the same order, the rest (of those with a RIGHT, too)");
        FairGround fair = new FairGround();
        fair.ride(1, 1, 0, 0, 5);
        fair.ride(1, 1, 0, 0, 9);
        fair.ride(1, 1, 0, 0, 1);
        fair.lay(0, 6, 6, false);
        fair.end();
        fair.close(6, 6, true);
        CHECK.due("layAll()", fair.layAll(), 0);
        CHECK.due("the greater rank without a RIGHT", fair.look(1, 1), 2);
        CHECK.due("then who could not have it", fair.look(0, 1), 4);
        CHECK.due("then the least", fair.look(2, 1), 6);
        CHECK.due("the RIGHT is kept", fair.look(0, 3), 2 * 78);

        CHECK.sentence("ALL LAID: a RIGHT is to its PLACE, not to the first one");
        FairGround early = new FairGround();
        early.ride(1, 1, 0, 0, 5);
        early.lay(0, 6, 6, false);
        early.end();
        CHECK.due("layAll()", early.layAll(), 0);
        CHECK.due("its PLACE", early.look(0, 1), 2 * 78);
    }
}
