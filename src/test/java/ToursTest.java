/** Promises 25 to 29: change-overs, tours, scales. */
public final class ToursTest {
    private static final int BAD = -1, NONE = -4;
    private static final int LOW = Integer.MIN_VALUE, TOP = Integer.MAX_VALUE;

    public static void main(String[] args) {
        change();
        stain();
        cleaning();
        tour();
        tourOfSeveral();
        scale();
        scales();
        Due.end();
    }

    private static void due(String call, long got, long want) {
        Due.due(call, got, want);
    }

    private static void change() {
        Due.part("25 change");
        CaseLine x = new CaseLine();
        int[] kinds = {-1, 6, LOW, TOP};
        for (int kind : kinds) {
            due("from " + kind, x.change(kind, 1, 5), BAD);
            due("to " + kind, x.change(1, kind, 5), BAD);
            due("from and to " + kind, x.change(kind, kind, 5), BAD);
        }
        for (int kind = 0; kind < 6; kind++) {
            due("to itself", x.change(kind, kind, 0), BAD);
        }
        int[] minutes = {-1, 501, LOW, TOP};
        for (int v : minutes) {
            due("minutes " + v, x.change(0, 1, v), BAD);
        }
        for (int from = 0; from < 6; from++) {
            for (int to = 0; to < 6; to++) {
                if (from != to) {
                    due("at first", x.change(from, to, 6 * from + to), 30);
                }
            }
        }
        for (int from = 0; from < 6; from++) {
            for (int to = 0; to < 6; to++) {
                if (from != to) {
                    due("what it was", x.change(from, to, 500), 6 * from + to);
                    due("that way alone", x.tour(1 << from | 1 << to, from, -1), 500);
                }
            }
        }
        due("500", x.change(0, 1, 0), 500);
        due("0", x.change(0, 1, 3), 0);
    }

    private static void stain() {
        Due.part("26 stain");
        CaseLine x = new CaseLine();
        int[] kinds = {-1, 6, LOW, TOP};
        for (int kind : kinds) {
            due("kind " + kind, x.stain(kind, 0), BAD);
        }
        int[] stains = {-1, 4, LOW, TOP};
        for (int v : stains) {
            due("stain " + v, x.stain(0, v), BAD);
        }
        for (int kind = 0; kind < 6; kind++) {
            due("at first", x.stain(kind, 3), 0);
            due("what it was", x.stain(kind, kind % 4), 3);
        }
        for (int kind = 0; kind < 6; kind++) {
            due("what it was", x.stain(kind, 0), kind % 4);
        }
    }

    private static void cleaning() {
        Due.part("26 stain and cleaning");
        CaseLine x = new CaseLine();
        x.stain(0, 2);
        x.stain(1, 1);
        x.stain(2, 2);
        due("to a lesser", x.tour(3, 0, -1), 90);
        due("to a greater", x.tour(3, 1, -1), 30);
        due("to the same", x.tour(5, 0, -1), 30);
        x.rule(5, 500);
        due("cleaning 500", x.tour(3, 0, -1), 530);
        x.rule(5, 0);
        due("cleaning 0", x.tour(3, 0, -1), 30);
        x.rule(5, 7);
        x.change(0, 1, 0);
        due("cleaning alone", x.tour(3, 0, -1), 7);
    }

    private static void tour() {
        Due.part("27 tour");
        CaseLine x = new CaseLine();
        int[] sets = {0, -1, 64, 65, LOW, TOP};
        for (int set : sets) {
            due("set " + set, x.tour(set, 0, 0), BAD);
        }
        int[] kinds = {-1, 6, 32, LOW, TOP};
        for (int kind : kinds) {
            due("from " + kind, x.tour(63, kind, 0), BAD);
        }
        due("not in the set", x.tour(62, 0, 0), BAD);
        due("not in the set", x.tour(31, 5, 0), BAD);
        due("i -2", x.tour(63, 0, -2), BAD);
        due("i LOW", x.tour(63, 0, LOW), BAD);
        due("one alone", x.tour(32, 5, -1), 0);
        due("the lowest alone", x.tour(1, 0, -1), 0);
        due("it is first", x.tour(32, 5, 0), 5);
        due("no second", x.tour(32, 5, 1), NONE);
        due("no sixth", x.tour(31, 0, 5), NONE);
        due("no seventh", x.tour(63, 0, 6), NONE);
        due("none of TOP", x.tour(63, 0, TOP), NONE);
        order(x, 63, 3, 150, 3, 0, 1, 2, 4, 5);
        order(x, 42, 3, 60, 3, 1, 5);
    }

    private static void order(CaseLine x, int set, int from, int minutes, int... kinds) {
        due("minutes of " + set, x.tour(set, from, -1), minutes);
        for (int i = 0; i < kinds.length; i++) {
            due(i + " of " + set, x.tour(set, from, i), kinds[i]);
        }
        due("the end of " + set, x.tour(set, from, kinds.length), NONE);
    }

    private static void tourOfSeveral() {
        Due.part("27 tour, the shortest");
        CaseLine x = new CaseLine();
        // The nearest first is a trap: 0 to 1 costs nothing, from 1 all is dear.
        x.change(0, 1, 0);
        x.change(1, 2, 500);
        x.change(1, 3, 500);
        order(x, 15, 0, 90, 0, 2, 3, 1);
        order(x, 7, 0, 60, 0, 2, 1);
        x.change(3, 2, 29);
        order(x, 15, 0, 89, 0, 3, 2, 1);
        x.stain(3, 1);
        order(x, 15, 0, 149, 0, 3, 2, 1);
        x.rule(5, 62);
        // From 3 on with cleaning in the midst, or at the end: the same minutes but for one.
        order(x, 15, 0, 151, 0, 3, 2, 1);
        x.change(3, 2, 30);
        order(x, 15, 0, 152, 0, 2, 3, 1);
        // Of several with the same minutes the lower kinds win from the first on.
        x = new CaseLine();
        x.change(0, 5, 10);
        x.change(5, 2, 20);
        x.change(0, 1, 15);
        x.change(1, 5, 15);
        order(x, 39, 0, 50, 0, 1, 5, 2);
        order(x, 37, 0, 30, 0, 5, 2);
        x.change(5, 1, 15);
        order(x, 39, 0, 50, 0, 1, 5, 2);
        x.change(1, 2, 25);
        order(x, 39, 0, 50, 0, 1, 5, 2);
        x.change(1, 2, 24);
        order(x, 39, 0, 49, 0, 5, 1, 2);
        order(x, 6, 1, 24, 1, 2);
    }

    private static CaseLine withCodes(int units) {
        CaseLine x = new CaseLine();
        x.supply(units);
        x.ticks(units + 2);
        return x;
    }

    private static void scale() {
        Due.part("28 scale");
        CaseLine x = withCodes(5);
        int[] codes = {-1, 5, 199, 200, LOW, TOP};
        for (int code : codes) {
            due("code " + code, x.scale(code, 5), BAD);
        }
        int[] weights = {-1, 10001, LOW, TOP};
        for (int weight : weights) {
            due("weight " + weight, x.scale(0, weight), BAD);
        }
        due("none was told", x.scales(2), 0);
        due("at first", x.scale(0, 0), NONE);
        due("it was 0", x.scale(0, 10000), 0);
        due("it was 10000", x.scale(0, 77), 10000);
        due("of another", x.scale(4, 78), NONE);
        due("told", x.code(0, 3), 77);
        due("two are weighed", x.scales(2), 2);
    }

    private static void scales() {
        Due.part("29 scales");
        CaseLine x = withCodes(200);
        int[] whats = {-1, 3, LOW, TOP};
        for (int what : whats) {
            due("what " + what, x.scales(what), BAD);
        }
        sums(x, "none", 0, 0, 0);
        x.scale(0, 100);
        sums(x, "just UNIT", 0, 0, 1);
        x.scale(1, 101);
        sums(x, "one above", 1, 0, 2);
        x.scale(2, 95);
        sums(x, "below within TOLERANCE", 1, 0, 3);
        x.scale(3, 94);
        sums(x, "short", 1, 1, 4);
        x.scale(199, 10000);
        sums(x, "far above", 9901, 1, 5);
        x.scale(3, 0);
        sums(x, "nothing", 9901, 1, 5);
        x.rule(4, 4);
        sums(x, "less TOLERANCE", 9901, 2, 5);
        x.rule(2, 0);
        sums(x, "UNIT 0", 100 + 101 + 95 + 10000, 0, 5);
        x.rule(2, 10000);
        sums(x, "UNIT 10000", 0, 4, 5);
        x.rule(4, 1000);
        x.rule(2, 1000);
        sums(x, "TOLERANCE as much as UNIT", 9000, 0, 5);
        x = withCodes(200);
        for (int code = 0; code < 200; code++) {
            x.scale(code, 10000);
        }
        x.rule(2, 0);
        sums(x, "all", 2000000, 0, 200);
    }

    private static void sums(CaseLine x, String when, int given, int light, int told) {
        due("given away, " + when, x.scales(0), given);
        due("short, " + when, x.scales(1), light);
        due("weighed, " + when, x.scales(2), told);
    }
}
