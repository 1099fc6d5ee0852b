/** "Terms", part 3, and promises 22 to 24: a test for each sentence that names a boundary case. */
public final class EdgesOfLayersTest {
    private static final int BAD = -1, NO = -2, NONE = -4;

    /** Layers by cases where a PINWHEEL has room for one case more than any cuts: X, Y, a, b, MOST. */
    private static final int[][] BY_PINWHEEL = {
        {5, 5, 3, 1, 8}, {5, 5, 3, 2, 4}, {7, 7, 3, 2, 8}, {6, 7, 4, 1, 10}, {7, 6, 4, 1, 10}, {7, 7, 4, 1, 12},
        {7, 7, 4, 3, 4}, {10, 10, 4, 3, 8}, {10, 11, 4, 3, 9}, {11, 10, 4, 3, 9}, {7, 9, 5, 1, 12}, {8, 8, 5, 1, 12},
        {8, 9, 5, 1, 14}, {9, 7, 5, 1, 12}, {9, 8, 5, 1, 14}, {9, 9, 5, 1, 16}, {7, 9, 5, 2, 6}, {9, 7, 5, 2, 6},
        {9, 9, 5, 2, 8}, {11, 11, 5, 2, 12}, {8, 8, 5, 3, 4}, {11, 11, 5, 3, 8}, {9, 9, 5, 4, 4}, {8, 11, 6, 1, 14},
        {9, 10, 6, 1, 14}, {9, 11, 6, 1, 16}, {10, 9, 6, 1, 14}, {10, 10, 6, 1, 16}, {10, 11, 6, 1, 18},
        {11, 8, 6, 1, 14}, {11, 9, 6, 1, 16}, {11, 10, 6, 1, 18}, {11, 11, 6, 1, 20}, {10, 10, 6, 2, 8},
        {10, 10, 6, 4, 4}, {11, 11, 6, 5, 4}, {10, 12, 7, 1, 16}, {11, 11, 7, 1, 16}, {11, 12, 7, 1, 18},
        {12, 10, 7, 1, 16}, {12, 11, 7, 1, 18}, {12, 12, 7, 1, 20}, {11, 11, 7, 2, 8}, {11, 11, 7, 4, 4},
        {12, 12, 7, 5, 4}};

    public static void main(String[] args) {
        termsLayerSides();
        termsCaseSides();
        termsLyingEitherWay();
        termsFillsItJust();
        termsLiesInIt();
        termsNoneHasRoom();
        termsStraightCut();
        termsPinwheel();
        termsPinwheelPlaces();
        termsEmptyPart();
        termsAtItsLowerLeft();
        termsAlongXByA();
        termsUprightCutsFirst();
        termsLevelCutsThen();
        termsPinwheelsLast();
        termsTwoOrMore();
        termsBySquareAtLeast();
        layerMost();
        layerBad();
        plannedOfEach();
        plannedInTheLatest();
        plannedNone();
        plannedBad();
        plannedNo();
        plannedOfSeveral();
        holdsOnItself();
        holdsNo();
        Due.end();
    }

    private static void due(String call, long got, long want) {
        Due.due(call, got, want);
    }

    private static void place(CaseLine x, int i, int left, int low, int along, int up) {
        due("case " + i + " x", x.planned(i, 0), left);
        due("case " + i + " y", x.planned(i, 1), low);
        due("case " + i + " along X", x.planned(i, 2), along);
        due("case " + i + " along Y", x.planned(i, 3), up);
    }

    private static void layer(CaseLine x, int width, int height, int a, int b, int most) {
        due(width + " by " + height + " with " + a + " by " + b, x.layer(width, height, a, b), most);
        due("no case " + most, x.planned(most, 0), NONE);
        if (most > 0) {
            due("case " + (most - 1) + " is one", x.planned(most - 1, 0) >= 0 ? 1 : 0, 1);
        }
    }

    private static void termsLayerSides() {
        Due.part("Terms 3: A LAYER of X by Y (1 to 12 each)");
        CaseLine x = new CaseLine();
        layer(x, 1, 1, 1, 1, 1);
        layer(x, 12, 1, 1, 1, 12);
        layer(x, 1, 12, 1, 1, 12);
        layer(x, 12, 12, 1, 1, 144);
        layer(x, 11, 12, 1, 1, 132);
        Behind.outside("X", 1, 12, Behind.BUSY, (y, v) -> y.layer(v, 5, 2, 1));
        Behind.outside("Y", 1, 12, Behind.BUSY, (y, v) -> y.layer(5, v, 2, 1));
    }

    private static void termsCaseSides() {
        Due.part("Terms 3: with cases of a by b (1 to 12 each)");
        CaseLine x = new CaseLine();
        layer(x, 12, 12, 12, 12, 1);
        layer(x, 12, 12, 12, 1, 12);
        layer(x, 12, 12, 1, 12, 12);
        layer(x, 11, 11, 12, 1, 0);
        layer(x, 11, 11, 1, 12, 0);
        Behind.outside("a", 1, 12, Behind.BUSY, (y, v) -> y.layer(5, 5, v, 1));
        Behind.outside("b", 1, 12, Behind.BUSY, (y, v) -> y.layer(5, 5, 1, v));
    }

    private static void termsLyingEitherWay() {
        Due.part("Terms 3: cases of a by b, lying either way");
        CaseLine x = new CaseLine();
        layer(x, 4, 1, 4, 1, 1);
        layer(x, 1, 4, 4, 1, 1);
        layer(x, 4, 1, 1, 4, 1);
        layer(x, 1, 4, 1, 4, 1);
        layer(x, 3, 12, 12, 3, 1);
        layer(x, 7, 5, 5, 2, 3);
        layer(x, 7, 5, 2, 5, 3);
    }

    private static void termsFillsItJust() {
        Due.part("Terms 3: MOST(X, Y) is the greatest of: 1 if a case fills it just");
        CaseLine x = new CaseLine();
        for (int a = 1; a <= 12; a++) {
            for (int b = 1; b <= 12; b++) {
                due(a + " by " + b, x.layer(a, b, a, b), 1);
                due(a + " by " + b + " turned", x.layer(b, a, a, b), 1);
            }
        }
        place(x, 0, 0, 0, 12, 12);
    }

    private static void termsLiesInIt() {
        Due.part("Terms 3: MOST(X, Y) is the greatest of: 1 if a case .. lies in it");
        CaseLine x = new CaseLine();
        layer(x, 6, 4, 5, 4, 1);
        layer(x, 5, 5, 5, 4, 1);
        layer(x, 12, 12, 7, 7, 1);
        layer(x, 12, 12, 12, 7, 1);
        layer(x, 12, 12, 6, 7, 2);
        layer(x, 12, 12, 6, 6, 4);
    }

    private static void termsNoneHasRoom() {
        Due.part("Terms 3: MOST(X, Y), where no case fills it or lies in it");
        CaseLine x = new CaseLine();
        layer(x, 4, 4, 5, 1, 0);
        layer(x, 5, 4, 5, 5, 0);
        layer(x, 12, 11, 12, 12, 0);
        layer(x, 1, 1, 2, 1, 0);
        layer(x, 12, 1, 2, 2, 0);
    }

    private static void termsStraightCut() {
        Due.part("Terms 3: MOST(X, Y) is the greatest of: two parts of a straight cut through, together (at whole places)");
        CaseLine x = new CaseLine();
        layer(x, 2, 1, 1, 1, 2);
        layer(x, 1, 2, 1, 1, 2);
        for (int n = 1; n <= 12; n++) {
            layer(x, n, 3, 1, 3, n);
            layer(x, 3, n, 3, 1, n);
            layer(x, n, 1, 5, 1, n / 5);
            layer(x, 1, n, 5, 1, n / 5);
        }
        layer(x, 6, 6, 3, 2, 6);
        layer(x, 11, 11, 2, 2, 25);
        layer(x, 12, 11, 11, 1, 12);
        layer(x, 11, 12, 11, 1, 12);
    }

    private static void termsPinwheel() {
        Due.part("Terms 3: MOST(X, Y) is the greatest of: a PINWHEEL: five parts by 0 < x1 < x2 < X, 0 < y1 < y2 < Y, together");
        CaseLine x = new CaseLine();
        for (int[] row : BY_PINWHEEL) {
            layer(x, row[0], row[1], row[2], row[3], row[4]);
            layer(x, row[0], row[1], row[3], row[2], row[4]);
        }
        // One place less on a side, and the wheel has no room.
        layer(x, 4, 5, 3, 2, 3);
        layer(x, 5, 4, 3, 2, 3);
        layer(x, 6, 7, 4, 3, 3);
        layer(x, 12, 11, 7, 5, 3);
    }

    private static void termsPinwheelPlaces() {
        Due.part("Terms 3: a PINWHEEL: x1 by y2, (X - x1) by y1, (X - x2) by (Y - y1), x2 by (Y - y2), and the middle");
        CaseLine x = new CaseLine();
        layer(x, 12, 12, 7, 5, 4);
        place(x, 0, 0, 0, 5, 7);
        place(x, 1, 5, 0, 7, 5);
        place(x, 2, 7, 5, 5, 7);
        place(x, 3, 0, 7, 7, 5);
        layer(x, 7, 7, 4, 3, 4);
        place(x, 0, 0, 0, 3, 4);
        place(x, 1, 3, 0, 4, 3);
        place(x, 2, 4, 3, 3, 4);
        place(x, 3, 0, 4, 4, 3);
    }

    private static void termsEmptyPart() {
        Due.part("Terms 3: PLANNED: a part in which none has room is empty");
        CaseLine x = new CaseLine();
        layer(x, 2, 2, 3, 3, 0);
        place(x, 0, NONE, NONE, NONE, NONE);
        // A cut at 1 leaves an empty part 1 by 4 on the left, and the rest is cut in the midst.
        layer(x, 5, 4, 4, 2, 2);
        place(x, 0, 1, 0, 2, 4);
        place(x, 1, 3, 0, 2, 4);
        // The middle of a pinwheel is empty.
        layer(x, 5, 5, 3, 2, 4);
        place(x, 4, NONE, NONE, NONE, NONE);
    }

    private static void termsAtItsLowerLeft() {
        Due.part("Terms 3: PLANNED: where a case lies and no more can: at its lower left");
        CaseLine x = new CaseLine();
        layer(x, 12, 12, 7, 7, 1);
        place(x, 0, 0, 0, 7, 7);
        layer(x, 12, 5, 7, 5, 1);
        place(x, 0, 0, 0, 7, 5);
        layer(x, 5, 12, 5, 7, 1);
        place(x, 0, 0, 0, 5, 7);
    }

    private static void termsAlongXByA() {
        Due.part("Terms 3: PLANNED: along X by a, if that fits, else by b");
        CaseLine x = new CaseLine();
        layer(x, 4, 4, 3, 4, 1);
        place(x, 0, 0, 0, 3, 4);
        layer(x, 4, 4, 4, 3, 1);
        place(x, 0, 0, 0, 4, 3);
        layer(x, 4, 3, 3, 4, 1);
        place(x, 0, 0, 0, 4, 3);
        layer(x, 3, 4, 4, 3, 1);
        place(x, 0, 0, 0, 3, 4);
        layer(x, 3, 3, 3, 3, 1);
        place(x, 0, 0, 0, 3, 3);
    }

    private static void termsUprightCutsFirst() {
        Due.part("Terms 3: PLANNED: else the first of upright cuts x = 1, 2, .. (left part, then right)");
        CaseLine x = new CaseLine();
        // Upright first, then each column by level cuts.
        layer(x, 2, 2, 1, 1, 4);
        place(x, 0, 0, 0, 1, 1);
        place(x, 1, 0, 1, 1, 1);
        place(x, 2, 1, 0, 1, 1);
        place(x, 3, 1, 1, 1, 1);
        // The first cut that comes to the most, though it leaves an empty part.
        layer(x, 5, 1, 2, 1, 2);
        place(x, 0, 1, 0, 2, 1);
        place(x, 1, 3, 0, 2, 1);
        layer(x, 7, 3, 3, 2, 3);
        place(x, 0, 1, 0, 2, 3);
        place(x, 1, 3, 0, 2, 3);
        place(x, 2, 5, 0, 2, 3);
        // The cuts at 1 and 2 do not come to 3 here.
        layer(x, 9, 1, 3, 1, 3);
        place(x, 0, 0, 0, 3, 1);
        place(x, 1, 3, 0, 3, 1);
        place(x, 2, 6, 0, 3, 1);
    }

    private static void termsLevelCutsThen() {
        Due.part("Terms 3: PLANNED: level cuts y = 1, 2, .. (lower, then upper)");
        CaseLine x = new CaseLine();
        layer(x, 3, 9, 3, 3, 3);
        place(x, 0, 0, 0, 3, 3);
        place(x, 1, 0, 3, 3, 3);
        place(x, 2, 0, 6, 3, 3);
        // No upright cut does: level ones, from the lowest on, though that leaves an empty part.
        layer(x, 3, 7, 3, 3, 2);
        place(x, 0, 0, 1, 3, 3);
        place(x, 1, 0, 4, 3, 3);
    }

    private static void termsPinwheelsLast() {
        Due.part("Terms 3: PLANNED: PINWHEELS by x1, x2, y1, y2 (lower left, lower right, upper right, upper left, middle) by which MOST is come to");
        CaseLine x = new CaseLine();
        layer(x, 5, 5, 3, 2, 4);
        place(x, 0, 0, 0, 2, 3);
        place(x, 1, 2, 0, 3, 2);
        place(x, 2, 3, 2, 2, 3);
        place(x, 3, 0, 3, 3, 2);
        // The first wheel is 3, 4, 7, 8; its lower right part is a wheel itself.
        layer(x, 10, 11, 4, 3, 9);
        place(x, 0, 0, 0, 3, 4);
        place(x, 1, 0, 4, 3, 4);
        place(x, 2, 3, 0, 3, 4);
        place(x, 3, 6, 0, 4, 3);
        place(x, 4, 7, 3, 3, 4);
        place(x, 5, 3, 4, 4, 3);
        place(x, 6, 4, 7, 3, 4);
        place(x, 7, 7, 7, 3, 4);
        place(x, 8, 0, 8, 4, 3);
    }

    private static void termsTwoOrMore() {
        Due.part("Terms 3: HOLDS: how many cases of a layer lie on two or more of the layer beneath");
        CaseLine x = new CaseLine();
        layer(x, 2, 2, 3, 3, 0);
        due("none", x.holds(), 0);
        layer(x, 4, 1, 3, 1, 1);
        due("one on one", x.holds(), 0);
        layer(x, 12, 12, 1, 1, 144);
        due("each on one just beneath", x.holds(), 0);
        // At 1 and 3 of 5; turned at 0 and 2: the first lies on both, the second on one.
        layer(x, 5, 1, 2, 1, 2);
        due("one on two", x.holds(), 1);
        layer(x, 12, 10, 4, 3, 10);
        due("all on two or more", x.holds(), 10);
    }

    private static void termsBySquareAtLeast() {
        Due.part("Terms 3: HOLDS: (overlapping by a square at least)");
        CaseLine x = new CaseLine();
        // Those beside it touch the one beneath, and no more.
        layer(x, 6, 1, 2, 1, 3);
        due("by an edge alone", x.holds(), 0);
        layer(x, 4, 4, 2, 2, 4);
        due("by a corner alone", x.holds(), 0);
        layer(x, 5, 5, 3, 2, 4);
        due("a pinwheel turned is itself", x.holds(), 0);
        // At 1, 6 of 11, turned at 0, 5: the first overlaps the second beneath by one square.
        layer(x, 11, 1, 5, 1, 2);
        place(x, 0, 1, 0, 5, 1);
        due("by one square", x.holds(), 1);
    }

    private static void layerMost() {
        Due.part("Promise 22, layer: A LAYER: MOST");
        CaseLine x = new CaseLine();
        layer(x, 12, 12, 1, 1, 144);
        layer(x, 1, 1, 1, 1, 1);
        layer(x, 1, 1, 12, 12, 0);
        layer(x, 12, 12, 12, 12, 1);
        layer(x, 12, 12, 2, 1, 72);
        layer(x, 11, 11, 2, 1, 60);
    }

    private static void layerBad() {
        Due.part("Promise 22, layer: BAD");
        for (Behind.State state : new Behind.State[] {Behind.FRESH, Behind.BUSY}) {
            Behind.outside("X", 1, 12, state, (x, v) -> x.layer(v, 12, 1, 1));
            Behind.outside("Y", 1, 12, state, (x, v) -> x.layer(12, v, 1, 1));
            Behind.outside("a", 1, 12, state, (x, v) -> x.layer(12, 12, v, 12));
            Behind.outside("b", 1, 12, state, (x, v) -> x.layer(12, 12, 12, v));
            Behind.outside("all", 1, 12, state, (x, v) -> x.layer(v, v, v, v));
        }
    }

    private static void plannedOfEach() {
        Due.part("Promise 23, planned: Of case i as PLANNED: 0 x, 1 y, 2 how long along X, 3 along Y");
        CaseLine x = new CaseLine();
        layer(x, 12, 12, 1, 1, 144);
        place(x, 0, 0, 0, 1, 1);
        place(x, 1, 0, 1, 1, 1);
        place(x, 12, 1, 0, 1, 1);
        place(x, 142, 11, 10, 1, 1);
        place(x, 143, 11, 11, 1, 1);
        layer(x, 12, 12, 12, 1, 12);
        place(x, 0, 0, 0, 1, 12);
        place(x, 11, 11, 0, 1, 12);
    }

    private static void plannedInTheLatest() {
        Due.part("Promise 23, planned: in the latest layer()");
        CaseLine x = new CaseLine();
        layer(x, 12, 12, 1, 1, 144);
        layer(x, 3, 2, 3, 2, 1);
        place(x, 0, 0, 0, 3, 2);
        place(x, 1, NONE, NONE, NONE, NONE);
        due("a bad one is none", x.layer(12, 12, 1, 0), BAD);
        place(x, 0, 0, 0, 3, 2);
        place(x, 1, NONE, NONE, NONE, NONE);
        layer(x, 1, 1, 2, 2, 0);
        place(x, 0, NONE, NONE, NONE, NONE);
    }

    private static void plannedNone() {
        Due.part("Promise 23, planned: NONE");
        CaseLine x = new CaseLine();
        x.layer(12, 12, 1, 1);
        int[] beyond = {144, 145, 575, 576, 1 << 28, 1 << 29, 1 << 30, (1 << 30) + 1, Behind.TOP - 1, Behind.TOP};
        for (int i : beyond) {
            place(x, i, NONE, NONE, NONE, NONE);
        }
        place(x, 143, 11, 11, 1, 1);
        x.layer(5, 5, 3, 2);
        for (int i : beyond) {
            place(x, i, NONE, NONE, NONE, NONE);
        }
        place(x, 4, NONE, NONE, NONE, NONE);
        place(x, 143, NONE, NONE, NONE, NONE);
    }

    private static void plannedBad() {
        Due.part("Promise 23, planned: BAD");
        Behind.outside("what", 0, 3, Behind.BUSY, (x, v) -> x.planned(0, v));
        for (int what = 0; what < 4; what++) {
            int of = what;
            Behind.outside("i", 0, Behind.TOP, Behind.BUSY, (x, v) -> x.planned(v, of));
        }
    }

    private static void plannedNo() {
        Due.part("Promise 23, planned: NO: none was");
        for (int what = 0; what < 4; what++) {
            int of = what;
            for (int i : new int[] {0, 1, 143, 144, 1 << 30, Behind.TOP}) {
                Behind.refused("none was, case " + i, NO, Behind.FRESH, x -> x.planned(i, of));
            }
        }
        CaseLine x = new CaseLine();
        x.layer(0, 1, 1, 1);
        due("a bad one is none", x.planned(0, 0), NO);
        x.layer(1, 1, 2, 2);
        due("one without a case is one", x.planned(0, 0), NONE);
        x.line(3);
        due("a line anew leaves it", x.planned(0, 0), NONE);
    }

    private static void plannedOfSeveral() {
        Due.part("Promise 23, planned: Of several the first (BAD, NO); nothing changes then");
        Behind.outside("what", 0, 3, Behind.FRESH, (x, v) -> x.planned(0, v));
        Behind.outside("i", 0, Behind.TOP, Behind.FRESH, (x, v) -> x.planned(v, 0));
        Behind.refused("both", BAD, Behind.FRESH, x -> x.planned(-1, 4));
    }

    private static void holdsOnItself() {
        Due.part("Promise 24, holds: HOLDS of that LAYER on itself turned half round");
        CaseLine x = new CaseLine();
        // At 1, 3, 5 of 7; turned at 0, 2, 4: the last lies on one only.
        layer(x, 7, 1, 2, 1, 3);
        due("two", x.holds(), 2);
        due("asked again", x.holds(), 2);
        layer(x, 1, 7, 2, 1, 3);
        due("two, upright", x.holds(), 2);
        layer(x, 12, 12, 5, 3, 8);
        due("12 by 12 with 5 by 3", x.holds(), 4);
        due("a bad layer is none", x.layer(12, 12, 5, 13), BAD);
        due("as before", x.holds(), 4);
        layer(x, 1, 1, 2, 2, 0);
        due("without a case", x.holds(), 0);
    }

    private static void holdsNo() {
        Due.part("Promise 24, holds: NO: none was");
        Behind.refused("none was", NO, Behind.FRESH, x -> x.holds());
        CaseLine x = new CaseLine();
        x.layer(13, 1, 1, 1);
        due("a bad one is none", x.holds(), NO);
        x.layer(1, 1, 1, 1);
        due("one was", x.holds(), 0);
    }
}
