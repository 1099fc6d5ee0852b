import java.util.Arrays;

/** Runs of 512 calls by a fixed row of numbers: the class and the model answer the same. */
public final class RandomRunsTest {
    private static final String[] NAMES = {
        "line", "set", "fault", "supply", "lot", "ticks", "confirm", "about", "cause", "book", "rule", "pack",
        "close", "weigh", "stack", "seal", "breakUp", "code", "box", "recall", "layer", "planned", "holds",
        "change", "stain", "tour", "scale", "scales"};
    private static final int[] FAR = {
        Integer.MIN_VALUE, Integer.MIN_VALUE + 1, -65536, -2, -1, 0, 1, 63, 64, 199, 200, 10001, 1000001, 1 << 30,
        Integer.MAX_VALUE - 1, Integer.MAX_VALUE};

    private static long seed;

    public static void main(String[] args) {
        for (int run = 0; run < 1500; run++) {
            seed = run * 7919L + 17;
            oneRun(run);
        }
        Due.end();
    }

    private static int random(int bound) {
        seed = seed * 6364136223846793005L + 1442695040888963407L;
        return (int) ((seed >>> 33) % bound);
    }

    private static int between(int least, int most) {
        return least + random(most - least + 1);
    }

    /** A number of the span, at times one at its ends or just beyond, seldom a far one. */
    private static int told(int least, int most) {
        int way = random(200);
        if (way == 0) {
            return FAR[random(FAR.length)];
        }
        if (way < 4) {
            return least - 1;
        }
        if (way < 8) {
            return most + 1;
        }
        return way < 16 ? least : way < 24 ? most : between(least, most);
    }

    private static void oneRun(int run) {
        Due.part("run " + run);
        CaseLine x = new CaseLine();
        Model y = new Model();
        int leaning = random(5);
        int n = 0;
        if (leaning == 1) {
            n = warmUp(x, y);
        }
        for (; n < 512; n++) {
            int call = pick(leaning);
            int[] a = numbers(call, y);
            Due.due("call " + n + ", " + NAMES[call] + Arrays.toString(a), ask(x, call, a), expect(y, call, a));
        }
    }

    /** Makes codes of two lots, so that the tree has something to hold. */
    private static int warmUp(CaseLine x, Model y) {
        int[][] calls = {{3, 1000}, {5, 20}, {4, 3}, {5, 30}, {4, 2}, {5, 50}, {10, 0, between(1, 12)}, {10, 1, between(1, 4)}};
        for (int[] row : calls) {
            int[] a = {row[1], row.length > 2 ? row[2] : 0, 0, 0};
            Due.due("warm up " + NAMES[row[0]], ask(x, row[0], a), expect(y, row[0], a));
        }
        return calls.length;
    }

    /** Which call: all alike, or most of one part of the document. */
    private static int pick(int leaning) {
        if (leaning == 0 || random(12) == 0) {
            return random(NAMES.length);
        }
        switch (leaning) {
            case 1: return between(10, 19);
            case 2: return random(40) == 0 ? 0 : between(1, 9);
            case 3: return random(4) == 0 ? between(20, 22) : 21;
            default: return between(23, 27);
        }
    }

    private static int[] numbers(int call, Model y) {
        switch (call) {
            case 0: return new int[] {told(2, 6), 0, 0, 0};
            case 1: return setting();
            case 2: return span(y);
            case 3: return new int[] {told(1, random(3) == 0 ? 1000 : 20), 0, 0, 0};
            case 4: return new int[] {told(0, 15), 0, 0, 0};
            case 5: return new int[] {random(20) == 0 ? told(1, 500) : told(1, 12), 0, 0, 0};
            case 6: return new int[] {told(0, 5), 0, 0, 0};
            case 7: return new int[] {told(0, 5), told(0, 7), 0, 0};
            case 8: return new int[] {told(0, 7), 0, 0, 0};
            case 9: return new int[] {told(0, 7), 0, 0, 0};
            case 10: return ruling();
            case 11: return new int[] {random(8) == 0 ? told(0, 199) : told(0, 60), told(0, random(3) == 0 ? 29 : 5), 0, 0};
            case 12: return new int[] {told(0, random(3) == 0 ? 29 : 5), 0, 0, 0};
            case 13: return weight(y);
            case 14: return new int[] {told(0, random(3) == 0 ? 29 : 5), told(0, random(2) == 0 ? 5 : 1), 0, 0};
            case 15: return new int[] {told(0, 5), 0, 0, 0};
            case 16: return new int[] {told(0, 1), told(0, random(3) == 0 ? 29 : 5), 0, 0};
            case 17: return new int[] {told(0, random(3) == 0 ? 199 : 60), told(0, 3), 0, 0};
            case 18: return new int[] {told(0, random(3) == 0 ? 29 : 5), told(0, 4), 0, 0};
            case 19: return new int[] {told(0, random(3) == 0 ? 15 : 3), told(0, 2), 0, 0};
            case 20: return new int[] {told(1, 12), told(1, 12), told(1, random(2) == 0 ? 5 : 12), told(1, 5)};
            case 21: return new int[] {told(0, random(2) == 0 ? 12 : 143), told(0, 3), 0, 0};
            case 23: return new int[] {told(0, 5), told(0, 5), random(2) == 0 ? told(0, 500) : told(0, 40), 0};
            case 24: return new int[] {told(0, 5), told(0, 3), 0, 0};
            case 25: return new int[] {random(2) == 0 ? 63 : told(0, 63), told(0, 5), told(-1, 6), 0};
            case 26: return new int[] {told(0, 60), random(2) == 0 ? told(0, 10000) : told(85, 115), 0, 0};
            case 27: return new int[] {told(0, 2), 0, 0, 0};
            default: return new int[4];
        }
    }

    private static int[] setting() {
        int what = told(0, 3);
        int v = what == 0 ? told(1, 5) : what == 3 ? told(1, random(2) == 0 ? 20 : 4) : told(0, random(2) == 0 ? 99 : 6);
        return new int[] {told(0, 5), what, v, 0};
    }

    private static int[] span(Model y) {
        int from = random(4) == 0 ? told(0, 9999) : y.book(0) + between(-2, 20);
        return new int[] {told(0, 5), from, random(9) == 0 ? told(0, 9999) : from + between(-1, 20), 0};
    }

    private static int[] ruling() {
        int what = told(0, 5);
        int[] most = {12, 20, 10000, 10000, 1000, 500};
        int least = what < 2 ? 1 : 0;
        if (what >= 0 && what < 6) {
            int v = random(3) == 0 ? told(least, most[what]) : told(what < 2 ? 2 : 90, what < 2 ? 5 : 110);
            return new int[] {what, v, 0, 0};
        }
        return new int[] {what, 1, 0, 0};
    }

    private static int[] weight(Model y) {
        int near = y.weightDue() + between(-7, 7);
        return new int[] {told(0, random(3) == 0 ? 29 : 5), random(6) == 0 ? told(0, 1000000) : near, 0, 0};
    }

    private static int ask(CaseLine x, int call, int[] a) {
        switch (call) {
            case 0: return x.line(a[0]);
            case 1: return x.set(a[0], a[1], a[2]);
            case 2: return x.fault(a[0], a[1], a[2]);
            case 3: return x.supply(a[0]);
            case 4: return x.lot(a[0]);
            case 5: return x.ticks(a[0]);
            case 6: return x.confirm(a[0]);
            case 7: return x.about(a[0], a[1]);
            case 8: return x.cause(a[0]);
            case 9: return x.book(a[0]);
            case 10: return x.rule(a[0], a[1]);
            case 11: return x.pack(a[0], a[1]);
            case 12: return x.close(a[0]);
            case 13: return x.weigh(a[0], a[1]);
            case 14: return x.stack(a[0], a[1]);
            case 15: return x.seal(a[0]);
            case 16: return x.breakUp(a[0], a[1]);
            case 17: return x.code(a[0], a[1]);
            case 18: return x.box(a[0], a[1]);
            case 19: return x.recall(a[0], a[1]);
            case 20: return x.layer(a[0], a[1], a[2], a[3]);
            case 21: return x.planned(a[0], a[1]);
            case 22: return x.holds();
            case 23: return x.change(a[0], a[1], a[2]);
            case 24: return x.stain(a[0], a[1]);
            case 25: return x.tour(a[0], a[1], a[2]);
            case 26: return x.scale(a[0], a[1]);
            default: return x.scales(a[0]);
        }
    }

    private static int expect(Model y, int call, int[] a) {
        switch (call) {
            case 0: return y.line(a[0]);
            case 1: return y.set(a[0], a[1], a[2]);
            case 2: return y.fault(a[0], a[1], a[2]);
            case 3: return y.supply(a[0]);
            case 4: return y.lot(a[0]);
            case 5: return y.ticks(a[0]);
            case 6: return y.confirm(a[0]);
            case 7: return y.about(a[0], a[1]);
            case 8: return y.cause(a[0]);
            case 9: return y.book(a[0]);
            case 10: return y.rule(a[0], a[1]);
            case 11: return y.pack(a[0], a[1]);
            case 12: return y.close(a[0]);
            case 13: return y.weigh(a[0], a[1]);
            case 14: return y.stack(a[0], a[1]);
            case 15: return y.seal(a[0]);
            case 16: return y.breakUp(a[0], a[1]);
            case 17: return y.code(a[0], a[1]);
            case 18: return y.box(a[0], a[1]);
            case 19: return y.recall(a[0], a[1]);
            case 20: return y.layer(a[0], a[1], a[2], a[3]);
            case 21: return y.planned(a[0], a[1]);
            case 22: return y.holds();
            case 23: return y.change(a[0], a[1], a[2]);
            case 24: return y.stain(a[0], a[1]);
            case 25: return y.tour(a[0], a[1], a[2]);
            case 26: return y.scale(a[0], a[1]);
            default: return y.scales(a[0]);
        }
    }
}
