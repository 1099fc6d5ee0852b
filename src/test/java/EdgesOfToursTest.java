/** "Terms", part 4, and promises 25 to 29: a test for each sentence that names a boundary case. */
public final class EdgesOfToursTest {
    private static final int BAD = -1, NONE = -4;

    public static void main(String[] args) {
        termsKinds();
        termsChange();
        termsOfOneAndItself();
        termsStain();
        termsCleaningFromGreaterToLesser();
        termsCleaningMinutes();
        termsEachOnce();
        termsThatKindFirst();
        termsLeastMinutes();
        termsOfSeveralTheLower();
        termsWeightsTold();
        termsGivenAway();
        termsShort();
        changeWhatItWas();
        changeBad();
        stainWhatItWas();
        stainBad();
        tourMinutes();
        tourKindAt();
        tourNone();
        tourBad();
        tourNotInTheSet();
        scaleWhatItWas();
        scaleBad();
        scalesOfEach();
        scalesBad();
        Due.end();
    }

    private static void due(String call, long got, long want) {
        Due.due(call, got, want);
    }

    private static void bad(String call, Behind.Call on) {
        Behind.refused(call, BAD, Behind.BUSY, on);
    }

    private static CaseLine withCodes(int units) {
        CaseLine x = new CaseLine();
        x.supply(units);
        x.ticks(units + 2);
        return x;
    }

    private static void order(CaseLine x, int set, int from, int minutes, int... kinds) {
        String of = " of set " + set + " from " + from;
        due("minutes" + of, x.tour(set, from, -1), minutes);
        for (int i = 0; i < kinds.length; i++) {
            due("kind " + i + of, x.tour(set, from, i), kinds[i]);
        }
        due("the end" + of, x.tour(set, from, kinds.length), NONE);
    }

    private static void sums(CaseLine x, String when, int given, int below, int told) {
        due("GIVEN AWAY, " + when, x.scales(0), given);
        due("SHORT, " + when, x.scales(1), below);
        due("weighed, " + when, x.scales(2), told);
    }

    private static void termsKinds() {
        Due.part("Terms 4: KINDS 0 to 5");
        CaseLine x = new CaseLine();
        for (int kind = 0; kind < 6; kind++) {
            due("a tour of it alone", x.tour(1 << kind, kind, 0), kind);
            due("its stain", x.stain(kind, 0), 0);
        }
        due("from the least to the greatest", x.change(0, 5, 30), 30);
        due("from the greatest to the least", x.change(5, 0, 30), 30);
        due("no kind 6", x.tour(64, 6, 0), BAD);
        due("no kind -1", x.stain(-1, 0), BAD);
        due("no kind 6", x.stain(6, 0), BAD);
    }

    private static void termsChange() {
        Due.part("Terms 4: CHANGE minutes from one to another (0 to 500; 30 at first)");
        CaseLine x = new CaseLine();
        for (int from = 0; from < 6; from++) {
            for (int to = 0; to < 6; to++) {
                if (from != to) {
                    int pair = 1 << from | 1 << to;
                    due("30 at first", x.tour(pair, from, -1), 30);
                    due("the greatest", x.change(from, to, 500), 30);
                    due("the greatest", x.tour(pair, from, -1), 500);
                    due("the least", x.change(from, to, 0), 500);
                    due("the least", x.tour(pair, from, -1), 0);
                    due("the way back", x.tour(pair, to, -1), to < from ? 0 : 30);
                }
            }
        }
        Behind.outside("minutes", 0, 500, Behind.BUSY, (y, v) -> y.change(0, 1, v));
    }

    private static void termsOfOneAndItself() {
        Due.part("Terms 4: CHANGE of one and itself 0");
        CaseLine x = new CaseLine();
        for (int kind = 0; kind < 6; kind++) {
            due("alone", x.tour(1 << kind, kind, -1), 0);
            x.stain(kind, 3);
            due("alone with a stain", x.tour(1 << kind, kind, -1), 0);
        }
    }

    private static void termsStain() {
        Due.part("Terms 4: a STAIN (0 to 3; 0 at first)");
        CaseLine x = new CaseLine();
        for (int kind = 0; kind < 6; kind++) {
            due("0 at first", x.stain(kind, 3), 0);
            due("the greatest", x.stain(kind, 0), 3);
            due("the least", x.stain(kind, 0), 0);
            int of = kind;
            Behind.outside("stain of " + kind, 0, 3, Behind.BUSY, (y, v) -> y.stain(of, v));
        }
    }

    private static void termsCleaningFromGreaterToLesser() {
        Due.part("Terms 4: from a greater STAIN to a lesser CLEANING comes to it");
        for (int one = 0; one <= 3; one++) {
            for (int other = 0; other <= 3; other++) {
                CaseLine x = new CaseLine();
                x.stain(0, one);
                x.stain(5, other);
                due("from " + one + " to " + other, x.tour(33, 0, -1), one > other ? 90 : 30);
                due("from " + other + " to " + one, x.tour(33, 5, -1), other > one ? 90 : 30);
            }
        }
        CaseLine x = new CaseLine();
        x.stain(0, 3);
        due("the others do not matter", x.tour(6, 1, -1), 30);
    }

    private static void termsCleaningMinutes() {
        Due.part("Terms 4: CLEANING (60 at first, 0 to 500)");
        CaseLine x = new CaseLine();
        x.stain(0, 1);
        due("60 at first", x.tour(3, 0, -1), 90);
        x.rule(5, 500);
        due("the greatest", x.tour(3, 0, -1), 530);
        x.change(0, 1, 500);
        due("with the greatest change", x.tour(3, 0, -1), 1000);
        x.rule(5, 0);
        due("the least", x.tour(3, 0, -1), 500);
        x.change(0, 1, 0);
        due("with the least change", x.tour(3, 0, -1), 0);
    }

    private static void termsEachOnce() {
        Due.part("Terms 4: THE TOUR of a set from a KIND on: all of the set, each once");
        CaseLine x = new CaseLine();
        x.change(2, 0, 0);
        x.change(0, 4, 1);
        x.change(4, 1, 2);
        x.stain(3, 3);
        for (int set = 1; set < 64; set++) {
            for (int from = 0; from < 6; from++) {
                if ((set >> from & 1) != 0 && set % 3 == from % 3) {
                    int seen = 0;
                    for (int i = 0; i < Integer.bitCount(set); i++) {
                        int kind = x.tour(set, from, i);
                        due("a kind not seen yet of set " + set, kind >= 0 ? seen >> kind & 1 : 1, 0);
                        seen |= kind >= 0 ? 1 << kind : 0;
                    }
                    due("all of set " + set, seen, set);
                }
            }
        }
    }

    private static void termsThatKindFirst() {
        Due.part("Terms 4: THE TOUR .. from a KIND on (in it): that KIND first");
        CaseLine x = new CaseLine();
        for (int kind = 0; kind < 6; kind++) {
            due("of all", x.tour(63, kind, 0), kind);
            due("alone", x.tour(1 << kind, kind, 0), kind);
            due("of all the others: not in it", x.tour(63 & ~(1 << kind), kind, 0), BAD);
        }
        // Another first would be shorter.
        for (int to = 0; to < 6; to++) {
            if (to != 3) {
                x.change(3, to, 500);
            }
        }
        order(x, 63, 3, 620, 3, 0, 1, 2, 4, 5);
    }

    private static void termsLeastMinutes() {
        Due.part("Terms 4: THE TOUR .. with least minutes together");
        CaseLine x = new CaseLine();
        // The nearest first leads into dear ones.
        x.change(0, 1, 0);
        x.change(1, 2, 500);
        x.change(1, 3, 500);
        order(x, 15, 0, 90, 0, 2, 3, 1);
        x.stain(2, 1);
        x.stain(3, 1);
        // Cleaning comes once, from 3 to 1, as there is no way around it.
        order(x, 15, 0, 150, 0, 2, 3, 1);
        x = new CaseLine();
        for (int from = 0; from < 6; from++) {
            for (int to = 0; to < 6; to++) {
                x.change(from, to, 500);
            }
        }
        x.rule(5, 500);
        x.stain(5, 3);
        order(x, 63, 5, 3000, 5, 0, 1, 2, 3, 4);
        order(x, 63, 0, 2500, 0, 1, 2, 3, 4, 5);
        for (int from = 0; from < 6; from++) {
            for (int to = 0; to < 6; to++) {
                x.change(from, to, 0);
            }
        }
        x.rule(5, 0);
        order(x, 63, 5, 0, 5, 0, 1, 2, 3, 4);
        // One minute less is enough.
        x.change(5, 0, 1);
        order(x, 63, 5, 0, 5, 1, 0, 2, 3, 4);
    }

    private static void termsOfSeveralTheLower() {
        Due.part("Terms 4: of several that whose KINDS are lower, from the first on");
        CaseLine x = new CaseLine();
        order(x, 63, 0, 150, 0, 1, 2, 3, 4, 5);
        order(x, 63, 2, 150, 2, 0, 1, 3, 4, 5);
        order(x, 63, 5, 150, 5, 0, 1, 2, 3, 4);
        order(x, 42, 3, 60, 3, 1, 5);
        // 0 5 1 2 and 0 1 5 2 take as long: the lower second one, though the third is greater.
        x.change(0, 5, 10);
        x.change(5, 2, 20);
        x.change(0, 1, 15);
        x.change(1, 5, 15);
        x.change(5, 1, 15);
        x.change(1, 2, 25);
        order(x, 39, 0, 50, 0, 1, 5, 2);
        x.change(1, 2, 24);
        order(x, 39, 0, 49, 0, 5, 1, 2);
    }

    private static void termsWeightsTold() {
        Due.part("Terms 4: SCALES: weights told of units with CODES (0 to 10000)");
        CaseLine x = withCodes(3);
        due("the least", x.scale(0, 0), NONE);
        due("the greatest", x.scale(2, 10000), NONE);
        due("two", x.scales(2), 2);
        due("without a code", x.scale(3, 100), BAD);
        sums(x, "the least and the greatest", 9900, 1, 2);
        Behind.outside("weight", 0, 10000, Behind.BUSY, (y, v) -> y.scale(7, v));
        x.supply(1);
        x.ticks(3);
        due("now it has one", x.scale(3, 100), NONE);
    }

    private static void termsGivenAway() {
        Due.part("Terms 4: GIVEN AWAY: the sum of what they are above UNIT");
        CaseLine x = withCodes(250);
        x.scale(0, 99);
        sums(x, "one below UNIT", 0, 0, 1);
        x.scale(0, 100);
        sums(x, "just UNIT", 0, 0, 1);
        x.scale(0, 101);
        sums(x, "one above", 1, 0, 1);
        x.scale(1, 0);
        sums(x, "what is below takes nothing off", 1, 1, 2);
        x.scale(2, 150);
        sums(x, "together", 51, 1, 3);
        x.rule(2, 0);
        sums(x, "UNIT 0", 251, 0, 3);
        x.rule(2, 10000);
        sums(x, "UNIT 10000", 0, 3, 3);
        x.rule(2, 0);
        for (int code = 0; code < 200; code++) {
            x.scale(code, 10000);
        }
        sums(x, "all the greatest", 2000000, 0, 200);
    }

    private static void termsShort() {
        Due.part("Terms 4: SHORT: how many are below UNIT less TOLERANCE");
        CaseLine x = withCodes(5);
        sums(x, "none weighed", 0, 0, 0);
        x.scale(0, 95);
        sums(x, "just UNIT less TOLERANCE", 0, 0, 1);
        x.scale(1, 94);
        sums(x, "one below", 0, 1, 2);
        x.rule(4, 6);
        sums(x, "TOLERANCE 6", 0, 0, 2);
        x.rule(4, 0);
        sums(x, "TOLERANCE 0", 0, 2, 2);
        x.scale(2, 99);
        x.scale(3, 100);
        sums(x, "one below UNIT, and UNIT", 0, 3, 4);
        x.scale(4, 0);
        x.rule(4, 99);
        sums(x, "below 1", 0, 1, 5);
        x.rule(4, 100);
        sums(x, "below 0 is none", 0, 0, 5);
        x.rule(4, 1000);
        sums(x, "nor below less than 0", 0, 0, 5);
    }

    private static void changeWhatItWas() {
        Due.part("Promise 25, change: CHANGE from a KIND to another one (0 to 500): what it was");
        CaseLine x = new CaseLine();
        due("at first", x.change(0, 1, 500), 30);
        due("the greatest", x.change(0, 1, 0), 500);
        due("the least", x.change(0, 1, 1), 0);
        due("another way", x.change(1, 0, 499), 30);
        due("that one", x.change(0, 1, 30), 1);
        due("from the greatest", x.change(5, 0, 2), 30);
        due("to the greatest", x.change(0, 5, 3), 30);
        due("what it was", x.change(5, 0, 4), 2);
    }

    private static void changeBad() {
        Due.part("Promise 25, change: BAD (no such KIND, one and itself, minutes not 0 to 500)");
        Behind.outside("from", 0, 5, Behind.BUSY, (x, v) -> x.change(v, 3, 10));
        Behind.outside("to", 0, 5, Behind.BUSY, (x, v) -> x.change(3, v, 10));
        Behind.outside("both", 0, 5, Behind.BUSY, (x, v) -> x.change(v, v, 10));
        for (int from = 0; from < 6; from++) {
            for (int to = 0; to < 6; to++) {
                if (from != to && (from == 0 || to == 5)) {
                    int one = from;
                    int other = to;
                    Behind.outside("minutes", 0, 500, Behind.BUSY, (x, v) -> x.change(one, other, v));
                }
            }
            int kind = from;
            for (int v : new int[] {-1, 0, 30, 500, 501}) {
                bad("to another one, not itself", x -> x.change(kind, kind, v));
            }
        }
    }

    private static void stainWhatItWas() {
        Due.part("Promise 26, stain: STAIN (0 to 3): what it was");
        CaseLine x = new CaseLine();
        due("at first", x.stain(0, 3), 0);
        due("the greatest", x.stain(0, 0), 3);
        due("the least", x.stain(0, 1), 0);
        due("the greatest kind", x.stain(5, 2), 0);
        due("that one", x.stain(0, 1), 1);
        due("the other", x.stain(5, 0), 2);
    }

    private static void stainBad() {
        Due.part("Promise 26, stain: BAD");
        Behind.outside("kind", 0, 5, Behind.BUSY, (x, v) -> x.stain(v, 1));
        Behind.outside("stain", 0, 3, Behind.BUSY, (x, v) -> x.stain(0, v));
        Behind.outside("stain", 0, 3, Behind.BUSY, (x, v) -> x.stain(5, v));
        Behind.outside("both", 0, 5, Behind.BUSY, (x, v) -> x.stain(v, v));
    }

    private static void tourMinutes() {
        Due.part("Promise 27, tour: THE TOUR of a set (bits) from a KIND: minutes (i = -1)");
        CaseLine x = new CaseLine();
        due("one kind", x.tour(1, 0, -1), 0);
        due("the greatest kind", x.tour(32, 5, -1), 0);
        due("two", x.tour(33, 5, -1), 30);
        due("all", x.tour(63, 5, -1), 150);
        x.change(5, 0, 7);
        due("by the change that is now", x.tour(33, 5, -1), 7);
        x.stain(5, 1);
        due("and the stain", x.tour(33, 5, -1), 67);
        x.rule(5, 1);
        due("and the cleaning", x.tour(33, 5, -1), 8);
    }

    private static void tourKindAt() {
        Due.part("Promise 27, tour: else the i-th KIND");
        CaseLine x = new CaseLine();
        due("i = 0", x.tour(63, 5, 0), 5);
        due("i = 1", x.tour(63, 5, 1), 0);
        due("i = 5", x.tour(63, 5, 5), 4);
        due("of two", x.tour(34, 1, 1), 5);
        due("of one", x.tour(32, 5, 0), 5);
    }

    private static void tourNone() {
        Due.part("Promise 27, tour: else the i-th KIND (NONE)");
        CaseLine x = new CaseLine();
        for (int i : new int[] {6, 7, 32, 63, 64, 1 << 30, Behind.TOP - 1, Behind.TOP}) {
            due("of six, i = " + i, x.tour(63, 0, i), NONE);
            due("of one, i = " + i, x.tour(1, 0, i), NONE);
        }
        due("of one, i = 1", x.tour(1, 0, 1), NONE);
        due("of five, i = 5", x.tour(31, 0, 5), NONE);
        due("of five, i = 4", x.tour(31, 0, 4), 4);
    }

    private static void tourBad() {
        Due.part("Promise 27, tour: BAD (a set not of KINDS 0 to 5, no such KIND, i below -1)");
        for (int i : new int[] {-1, 0, 5, 6}) {
            Behind.outside("set", 1, 63, Behind.BUSY, (x, v) -> x.tour(v, 0, i));
            for (int beyond : new int[] {1 << 6, 1 << 16, 1 << 30, Behind.LOW, 64 | 62, Behind.LOW | 62, -64}) {
                bad("kind 0 and what is none", x -> x.tour(beyond | 1, 0, i));
            }
            Behind.outside("from", 0, 5, Behind.BUSY, (x, v) -> x.tour(63, v, i));
        }
        Behind.outside("i", -1, Behind.TOP, Behind.BUSY, (x, v) -> x.tour(63, 0, v));
        bad("bits of kinds 0 and 6", x -> x.tour(65, 0, 0));
        bad("all bits", x -> x.tour(-1, 0, 0));
        bad("kind 6 in its set", x -> x.tour(64, 6, 0));
        bad("kind 32 would be kind 0 again", x -> x.tour(1, 32, 0));
    }

    private static void tourNotInTheSet() {
        Due.part("Promise 27, tour: BAD: it is not in the set");
        for (int kind = 0; kind < 6; kind++) {
            int of = kind;
            for (int i : new int[] {-1, 0, 6}) {
                bad("all but " + kind, x -> x.tour(63 & ~(1 << of), of, i));
                bad("an empty set", x -> x.tour(0, of, i));
            }
        }
    }

    private static void scaleWhatItWas() {
        Due.part("Promise 28, scale: The weight of a unit (0 to 10000): what it was (NONE)");
        CaseLine x = withCodes(250);
        due("none yet", x.scale(0, 0), NONE);
        due("the least", x.scale(0, 10000), 0);
        due("the greatest", x.scale(0, 1), 10000);
        due("the same", x.scale(0, 1), 1);
        due("the greatest code", x.scale(199, 5), NONE);
        due("it was", x.scale(199, 6), 5);
        due("three calls for one unit, two for another", x.scales(2), 2);
    }

    private static void scaleBad() {
        Due.part("Promise 28, scale: BAD (0 to 10000)");
        Behind.outside("weight", 0, 10000, Behind.BUSY, (x, v) -> x.scale(0, v));
        Behind.outside("weight", 0, 10000, Behind.BUSY, (x, v) -> x.scale(15, v));
        Behind.outside("code", 0, 15, Behind.BUSY, (x, v) -> x.scale(v, 100));
        Behind.refused("no code at all", BAD, Behind.FRESH, x -> x.scale(0, 100));
        CaseLine x = withCodes(250);
        due("the greatest code", x.scale(199, 0), NONE);
        due("code 200", x.scale(200, 0), BAD);
    }

    private static void scalesOfEach() {
        Due.part("Promise 29, scales: GIVEN AWAY (what = 0), SHORT (1), how many are weighed (2)");
        CaseLine x = withCodes(3);
        sums(x, "at first", 0, 0, 0);
        x.scale(0, 0);
        sums(x, "a weight of 0 is one", 0, 1, 1);
        x.scale(1, 10000);
        sums(x, "the greatest", 9900, 1, 2);
        x.scale(0, 100);
        sums(x, "the latest counts", 9900, 0, 2);
        x.pack(1, 0);
        x.line(2);
        sums(x, "packed, on a line anew", 9900, 0, 2);
    }

    private static void scalesBad() {
        Due.part("Promise 29, scales: BAD");
        Behind.outside("what", 0, 2, Behind.BUSY, (x, v) -> x.scales(v));
        Behind.outside("what", 0, 2, Behind.FRESH, (x, v) -> x.scales(v));
    }
}
