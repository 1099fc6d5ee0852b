/** Promises 22 to 24: layers. */
public final class LayersTest {
    private static final int BAD = -1, NO = -2, NONE = -4;
    private static final int LOW = Integer.MIN_VALUE, TOP = Integer.MAX_VALUE;

    public static void main(String[] args) {
        layer();
        layerMost();
        planned();
        plannedByCuts();
        plannedByPinwheel();
        plannedInOrder();
        holds();
        Due.end();
    }

    private static void due(String call, long got, long want) {
        Due.due(call, got, want);
    }

    private static void layer() {
        Due.part("22 layer");
        CaseLine x = new CaseLine();
        int[] wrong = {0, -1, 13, LOW, TOP};
        for (int v : wrong) {
            due("x " + v, x.layer(v, 1, 1, 1), BAD);
            due("y " + v, x.layer(1, v, 1, 1), BAD);
            due("a " + v, x.layer(1, 1, v, 1), BAD);
            due("b " + v, x.layer(1, 1, 1, v), BAD);
        }
        due("none was", x.holds(), NO);
        due("the least", x.layer(1, 1, 1, 1), 1);
        due("the greatest", x.layer(12, 12, 12, 12), 1);
        due("wrong", x.layer(12, 12, 13, 12), BAD);
        due("nothing changed", x.planned(0, 2), 12);
    }

    private static void layerMost() {
        Due.part("22 layer, the most");
        CaseLine x = new CaseLine();
        due("no room", x.layer(3, 3, 4, 1), 0);
        due("turned", x.layer(1, 4, 4, 1), 1);
        due("a case lies in it", x.layer(5, 5, 4, 4), 1);
        due("squares", x.layer(12, 12, 1, 1), 144);
        due("squares of two", x.layer(11, 11, 2, 2), 25);
        due("cuts: 3 by 2 on 6 by 6", x.layer(6, 6, 3, 2), 6);
        due("both ways: 5 by 2 on 7 by 5", x.layer(7, 5, 5, 2), 3);
        due("a pinwheel: 3 by 2 on 5 by 5", x.layer(5, 5, 3, 2), 4);
        due("a pinwheel: 2 by 3 on 5 by 5", x.layer(5, 5, 2, 3), 4);
        due("a pinwheel with a case in the middle", x.layer(8, 8, 5, 3), 4);
        due("a pinwheel of several: 4 by 3 on 11 by 11", x.layer(11, 11, 4, 3), 9);
        due("a pinwheel in a part", x.layer(5, 10, 3, 2), 8);
        due("smaller after greater", x.layer(2, 2, 2, 1), 2);
        due("with the rows of before", x.layer(3, 12, 7, 3), 1);
    }

    private static void planned() {
        Due.part("23 planned");
        CaseLine x = new CaseLine();
        due("none was", x.planned(0, 0), NO);
        due("none was", x.planned(TOP, 3), NO);
        int[] whats = {-1, 4, LOW, TOP};
        for (int what : whats) {
            due("BAD first " + what, x.planned(0, what), BAD);
        }
        due("BAD first", x.planned(-1, 0), BAD);
        x.layer(4, 3, 3, 4);
        for (int what : whats) {
            due("what " + what, x.planned(0, what), BAD);
            due("what " + what, x.planned(9, what), BAD);
        }
        due("i -1", x.planned(-1, 0), BAD);
        due("i LOW", x.planned(LOW, 0), BAD);
        place(x, 0, 0, 0, 4, 3);
        due("no more", x.planned(1, 0), NONE);
        due("144", x.planned(144, 0), NONE);
        due("TOP", x.planned(TOP, 3), NONE);
        x.layer(4, 4, 3, 4);
        place(x, 0, 0, 0, 3, 4);
        x.layer(4, 4, 4, 3);
        place(x, 0, 0, 0, 4, 3);
        x.layer(2, 2, 3, 3);
        due("none has room", x.planned(0, 0), NONE);
        x.layer(4, 4, 4, 3);
        due("BAD", x.layer(0, 4, 4, 3), BAD);
        place(x, 0, 0, 0, 4, 3);
    }

    private static void place(CaseLine x, int i, int left, int low, int along, int up) {
        due(i + " x", x.planned(i, 0), left);
        due(i + " y", x.planned(i, 1), low);
        due(i + " along", x.planned(i, 2), along);
        due(i + " up", x.planned(i, 3), up);
    }

    private static void plannedByCuts() {
        Due.part("23 planned by cuts");
        CaseLine x = new CaseLine();
        // 5 by 2: the cut at 1 leaves 4 by 2, where two have room: 1 by 2 along its height.
        due("layer", x.layer(5, 2, 2, 1), 5);
        place(x, 0, 0, 0, 1, 2);
        place(x, 1, 1, 0, 1, 2);
        place(x, 2, 2, 0, 1, 2);
        place(x, 3, 3, 0, 1, 2);
        place(x, 4, 4, 0, 1, 2);
        due("no sixth", x.planned(5, 0), NONE);
        // An upright cut at 1 leaves an empty part 1 by 4; the part 4 by 4 is cut upright first, too.
        due("layer", x.layer(5, 4, 4, 2), 2);
        place(x, 0, 1, 0, 2, 4);
        place(x, 1, 3, 0, 2, 4);
        // No upright cut does: level ones from the lowest on.
        due("layer", x.layer(3, 7, 3, 3), 2);
        place(x, 0, 0, 1, 3, 3);
        place(x, 1, 0, 4, 3, 3);
        due("no third", x.planned(2, 0), NONE);
    }

    private static void plannedByPinwheel() {
        Due.part("23 planned by a pinwheel");
        CaseLine x = new CaseLine();
        due("layer", x.layer(5, 5, 3, 2), 4);
        place(x, 0, 0, 0, 2, 3);
        place(x, 1, 2, 0, 3, 2);
        place(x, 2, 3, 2, 2, 3);
        place(x, 3, 0, 3, 3, 2);
        // Cuts come to more here than the pinwheel round the middle: five columns and a row.
        due("layer", x.layer(5, 5, 4, 1), 6);
        due("layer", x.layer(4, 4, 3, 1), 5);
        due("layer", x.layer(7, 7, 4, 3), 4);
        place(x, 0, 0, 0, 3, 4);
        place(x, 1, 3, 0, 4, 3);
        place(x, 2, 4, 3, 3, 4);
        place(x, 3, 0, 4, 4, 3);
    }

    private static void plannedInOrder() {
        Due.part("23 planned, all layers");
        for (int a = 1; a <= 12; a++) {
            for (int b = 1; b <= 12; b++) {
                checkPlaces(12, 12, a, b);
                checkPlaces(11, 10, a, b);
            }
        }
    }

    /** No case lies outside, none on another, each is one of the two ways. */
    private static void checkPlaces(int width, int height, int a, int b) {
        CaseLine x = new CaseLine();
        int most = x.layer(width, height, a, b);
        boolean[] taken = new boolean[144];
        // 512 calls are good, four go to a case.
        for (int i = 0; i < Math.min(most, 120); i++) {
            int left = x.planned(i, 0);
            int low = x.planned(i, 1);
            int along = x.planned(i, 2);
            int up = x.planned(i, 3);
            due("a way", along == a && up == b || along == b && up == a ? 1 : 0, 1);
            boolean inside = left >= 0 && low >= 0 && left + along <= width && low + up <= height;
            due("inside", inside ? 1 : 0, 1);
            for (int w = left; inside && w < left + along; w++) {
                for (int h = low; h < low + up; h++) {
                    due("free", taken[w * 12 + h] ? 1 : 0, 0);
                    taken[w * 12 + h] = true;
                }
            }
        }
        due("no more", x.planned(most, 0), NONE);
    }

    private static void holds() {
        Due.part("24 holds");
        CaseLine x = new CaseLine();
        due("none was", x.holds(), NO);
        x.layer(0, 1, 1, 1);
        due("none was yet", x.holds(), NO);
        x.layer(2, 2, 3, 3);
        due("no case", x.holds(), 0);
        // Four columns that lie on themselves.
        x.layer(4, 3, 3, 1);
        due("most", x.planned(3, 0), 3);
        due("columns", x.holds(), 0);
        // One case on one: 3 of 4 long, turned it lies from 1 on, on one only.
        x.layer(4, 1, 3, 1);
        due("one on one", x.holds(), 0);
        // Two cases of 2 by 1 at 1 and 3 of 5: turned at 0 and 2, so the first lies on both.
        x.layer(5, 1, 2, 1);
        due("the first", x.planned(0, 0), 1);
        due("the second", x.planned(1, 0), 3);
        due("one lies on two", x.holds(), 1);
        // 3 by 2 on 5 by 5 by a pinwheel: turned half round it is itself.
        x.layer(5, 5, 3, 2);
        due("a pinwheel", x.holds(), 0);
        x.layer(12, 10, 4, 3);
        due("across", x.holds(), 10);
        due("again", x.holds(), 10);
        x.layer(12, 12, 1, 1);
        due("squares", x.holds(), 0);
        // After a full layer nothing of it is left: 2 by 1 at 1, 3, 5 of 7, the last on one alone.
        x.layer(7, 1, 2, 1);
        due("two of three", x.holds(), 2);
    }
}
