/** Promises 12 to 21: rules, codes, cases, pallets, recalls. */
public final class CodesTest {
    private static final int BAD = -1, NO = -2, FULL = -3, NONE = -4;
    private static final int LOW = Integer.MIN_VALUE, TOP = Integer.MAX_VALUE;

    public static void main(String[] args) {
        rule();
        ruleOfWhatIsHeld();
        pack();
        close();
        weigh();
        weighWhatIsLost();
        weighByRules();
        stack();
        seal();
        breakUp();
        putTogetherAgain();
        code();
        box();
        recall();
        recallOfMany();
        Due.end();
    }

    private static void due(String call, long got, long want) {
        Due.due(call, got, want);
    }

    private static CaseLine withCodes(int units) {
        CaseLine x = new CaseLine();
        x.supply(units);
        x.ticks(units + 2);
        return x;
    }

    /** Packs codes into a case and closes it, for the SIZE of just so many. */
    private static void fill(CaseLine x, int box, int... units) {
        for (int i = 0; i < units.length; i++) {
            due("pack " + units[i], x.pack(units[i], box), i + 1);
        }
        due("close " + box, x.close(box), 0);
    }

    private static void rule() {
        Due.part("12 rule");
        CaseLine x = new CaseLine();
        int[] least = {1, 1, 0, 0, 0, 0};
        int[] most = {12, 20, 10000, 10000, 1000, 500};
        int[] first = {4, 6, 100, 50, 5, 60};
        for (int what = 0; what < 6; what++) {
            int[] wrong = {least[what] - 1, most[what] + 1, LOW, TOP};
            for (int v : wrong) {
                due("rule " + what + " " + v, x.rule(what, v), BAD);
            }
            due("the most " + what, x.rule(what, most[what]), first[what]);
            due("the least " + what, x.rule(what, least[what]), most[what]);
            due("it was " + what, x.rule(what, least[what]), least[what]);
        }
        int[] wrong = {-1, 6, LOW, TOP};
        for (int what : wrong) {
            due("rule " + what, x.rule(what, 1), BAD);
        }
    }

    private static void ruleOfWhatIsHeld() {
        Due.part("12 rule, what is held");
        CaseLine x = withCodes(20);
        for (int i = 0; i < 3; i++) {
            x.pack(i, 29);
        }
        due("a case holds more", x.rule(0, 2), NO);
        due("BAD comes first", x.rule(0, 0), BAD);
        due("as many", x.rule(0, 3), 4);
        due("more", x.rule(0, 12), 3);
        x.rule(0, 3);
        due("close", x.close(29), 0);
        fill(x, 0, 3, 4, 5);
        x.stack(29, 5);
        x.stack(0, 5);
        due("a pallet holds more", x.rule(1, 1), NO);
        due("as many on it", x.rule(1, 2), 6);
        x.breakUp(1, 5);
        due("none does", x.rule(1, 1), 2);
        x.breakUp(0, 29);
        due("case 0 holds more", x.rule(0, 2), NO);
        x.stack(0, 0);
        fill(x, 1, 0, 1, 2);
        x.rule(1, 2);
        x.stack(1, 0);
        due("pallet 0 holds more", x.rule(1, 1), NO);
        x.breakUp(1, 0);
        x.breakUp(0, 0);
        x.breakUp(0, 1);
        due("none does", x.rule(0, 1), 3);
    }

    private static void pack() {
        Due.part("13 pack");
        CaseLine x = withCodes(8);
        int[] codes = {-1, 200, LOW, TOP};
        for (int code : codes) {
            due("code " + code, x.pack(code, 0), BAD);
        }
        int[] boxes = {-1, 30, LOW, TOP};
        for (int box : boxes) {
            due("case " + box, x.pack(0, box), BAD);
            due("BAD first", x.pack(199, box), BAD);
        }
        due("no such code", x.pack(8, 0), NO);
        due("no such code", x.pack(199, 0), NO);
        due("the last code", x.pack(7, 0), 1);
        due("it is in a case", x.pack(7, 0), NO);
        due("it is in another", x.pack(7, 29), NO);
        due("second", x.pack(0, 0), 2);
        due("another case", x.pack(1, 29), 1);
        due("third", x.pack(2, 0), 3);
        due("fourth", x.pack(3, 0), 4);
        due("full", x.pack(4, 0), FULL);
        due("NO first", x.pack(3, 0), NO);
        due("nothing changed", x.box(0, 0), 4);
        due("in none", x.code(4, 0), NONE);
        due("close", x.close(0), 0);
        due("closed", x.pack(4, 0), NO);
        x.rule(0, 12);
        due("closed, with room", x.pack(4, 0), NO);
        due("second of another", x.pack(4, 29), 2);
    }

    private static void close() {
        Due.part("14 close");
        CaseLine x = withCodes(12);
        int[] boxes = {-1, 30, LOW, TOP};
        for (int box : boxes) {
            due("case " + box, x.close(box), BAD);
        }
        due("empty", x.close(3), NO);
        for (int i = 0; i < 3; i++) {
            x.pack(i, 3);
            due("not enough", x.close(3), NO);
        }
        due("open", x.box(3, 1), 0);
        x.pack(3, 3);
        due("close", x.close(3), 0);
        due("closed", x.box(3, 1), 1);
        due("it is", x.close(3), NO);
        x.pack(4, 4);
        x.pack(5, 4);
        x.pack(6, 4);
        x.pack(7, 4);
        x.rule(0, 5);
        due("SIZE is more now", x.close(4), NO);
        x.rule(0, 4);
        due("and less", x.close(4), 0);
    }

    private static void weigh() {
        Due.part("15 weigh");
        CaseLine x = withCodes(12);
        int[] boxes = {-1, 30, LOW, TOP};
        for (int box : boxes) {
            due("case " + box, x.weigh(box, 450), BAD);
        }
        int[] weights = {-1, 1000001, LOW, TOP};
        for (int weight : weights) {
            due("weight " + weight, x.weigh(0, weight), BAD);
        }
        due("an empty one", x.weigh(0, 450), NO);
        x.pack(2, 0);
        x.pack(5, 0);
        due("two are less", x.weigh(0, 450), NO);
        x.pack(3, 0);
        due("far too much", x.weigh(0, 1000000), NO);
        due("nothing", x.weigh(0, 0), NO);
        due("too little", x.weigh(0, 444), NO);
        due("too much", x.weigh(0, 456), NO);
        due("open yet", x.box(0, 1), 0);
        due("just enough", x.weigh(0, 445), 4);
        due("closed", x.box(0, 1), 1);
        due("four", x.box(0, 0), 4);
        due("it is in it", x.code(4, 0), 0);
        due("closed", x.weigh(0, 450), NO);
        x.pack(6, 1);
        x.pack(8, 1);
        x.pack(9, 1);
        due("just little enough", x.weigh(1, 455), 7);
        due("on a pallet", x.stack(1, 0), 1);
        due("none less", x.pack(0, 2) + x.pack(1, 2) + x.pack(10, 2) + x.pack(11, 2), 10);
        due("a case with all", x.weigh(2, 450), NO);
    }

    private static void weighWhatIsLost() {
        Due.part("15 weigh, what is lost");
        CaseLine x = withCodes(20);
        x.pack(5, 0);
        x.pack(6, 0);
        x.pack(7, 0);
        due("none between", x.weigh(0, 450), NO);
        x.breakUp(0, 0);
        x.pack(5, 0);
        x.pack(7, 0);
        x.pack(9, 0);
        due("two between", x.weigh(0, 450), NO);
        x.pack(8, 1);
        due("one of them is in another", x.weigh(0, 450), 6);
        x.breakUp(0, 0);
        x.breakUp(0, 1);
        x.pack(0, 0);
        x.pack(1, 0);
        x.pack(3, 0);
        due("from code 0 on", x.weigh(0, 450), 2);
        x.breakUp(0, 0);
        x.breakUp(0, 1);
        // Without units, and with one alone: nothing lies between.
        x.rule(0, 1);
        due("one less than one", x.weigh(2, 150), NO);
        x.rule(0, 2);
        x.pack(10, 2);
        due("one alone", x.weigh(2, 250), NO);
        x.pack(12, 2);
        due("as many as due", x.weigh(2, 250), NO);
        x.rule(0, 3);
        due("the one between", x.weigh(2, 350), 11);
        due("least", x.box(2, 3), 10);
        due("greatest", x.box(2, 4), 12);
        // Packed in any order, the ends are those of the codes.
        x.pack(19, 3);
        x.pack(17, 3);
        due("in any order", x.weigh(3, 350), 18);
    }

    private static void weighByRules() {
        Due.part("15 weigh, by the rules");
        CaseLine x = withCodes(20);
        x.rule(0, 12);
        x.rule(2, 10000);
        x.rule(3, 10000);
        x.rule(4, 1000);
        for (int i = 0; i < 12; i++) {
            if (i != 6) {
                x.pack(i, 29);
            }
        }
        x.scale(3, 1);
        due("too much", x.weigh(29, 131001), NO);
        due("too little", x.weigh(29, 128999), NO);
        due("by UNIT, not by the scales", x.weigh(29, 131000), 6);
        x.breakUp(0, 29);
        x.rule(0, 3);
        x.rule(2, 0);
        x.rule(3, 0);
        x.rule(4, 0);
        x.pack(0, 28);
        x.pack(2, 28);
        due("off by one", x.weigh(28, 1), NO);
        due("nothing weighs", x.weigh(28, 0), 1);
    }

    private static void stack() {
        Due.part("16 stack");
        CaseLine x = withCodes(40);
        int[] boxes = {-1, 30, LOW, TOP};
        for (int box : boxes) {
            due("case " + box, x.stack(box, 0), BAD);
        }
        int[] pallets = {-1, 6, LOW, TOP};
        for (int pallet : pallets) {
            due("pallet " + pallet, x.stack(0, pallet), BAD);
        }
        due("open", x.stack(0, 0), NO);
        x.rule(0, 1);
        for (int i = 0; i < 9; i++) {
            fill(x, i, i);
        }
        for (int i = 0; i < 6; i++) {
            due("stack " + i, x.stack(i, 5), i + 1);
        }
        due("full", x.stack(6, 5), FULL);
        due("NO first: it is on it", x.stack(0, 5), NO);
        due("NO first: it is open", x.stack(9, 5), NO);
        due("on none", x.box(6, 2), NONE);
        due("it is on another", x.stack(0, 4), NO);
        x.rule(1, 7);
        due("room again", x.stack(6, 5), 7);
        due("another", x.stack(7, 4), 1);
        due("seal", x.seal(4), 1);
        due("closed", x.stack(8, 4), NO);
        due("a third", x.stack(8, 3), 1);
    }

    private static void seal() {
        Due.part("17 seal");
        CaseLine x = withCodes(10);
        int[] pallets = {-1, 6, LOW, TOP};
        for (int pallet : pallets) {
            due("pallet " + pallet, x.seal(pallet), BAD);
        }
        x.rule(0, 2);
        fill(x, 0, 0, 1);
        fill(x, 1, 2, 3);
        due("none on it", x.seal(5), NO);
        x.stack(0, 5);
        x.stack(1, 5);
        due("none on this", x.seal(4), NO);
        due("seal", x.seal(5), 2);
        due("it is", x.seal(5), NO);
        x.breakUp(1, 5);
        due("none on it any more", x.seal(5), NO);
        due("open again", x.stack(0, 5), 1);
        due("seal again", x.seal(5), 1);
    }

    private static void breakUp() {
        Due.part("18 breakUp");
        CaseLine x = withCodes(30);
        int[] boxes = {-1, 30, LOW, TOP};
        for (int box : boxes) {
            due("case " + box, x.breakUp(0, box), BAD);
        }
        int[] pallets = {-1, 6, LOW, TOP};
        for (int pallet : pallets) {
            due("pallet " + pallet, x.breakUp(1, pallet), BAD);
        }
        int[] whats = {-1, 2, LOW, TOP};
        for (int what : whats) {
            due("what " + what, x.breakUp(what, 0), BAD);
        }
        due("an empty case", x.breakUp(0, 29), 0);
        due("an empty pallet", x.breakUp(1, 5), 0);
        x.pack(0, 0);
        x.pack(1, 0);
        x.pack(2, 1);
        due("an open case", x.breakUp(0, 0), 2);
        due("its units are in none", x.code(0, 0), NONE);
        due("its units are in none", x.code(1, 0), NONE);
        due("none are in it", x.box(0, 0), 0);
        due("those of others stay", x.code(2, 0), 1);
        x.breakUp(0, 1);
        fill(x, 0, 0, 1, 2, 3);
        fill(x, 1, 4, 5, 6, 7);
        fill(x, 2, 8, 9, 10, 11);
        x.stack(0, 0);
        x.stack(1, 0);
        x.stack(2, 1);
        due("on a pallet", x.breakUp(0, 0), NO);
        x.seal(0);
        due("on a closed pallet", x.breakUp(0, 0), NO);
        due("nothing changed", x.box(0, 0), 4);
        due("a pallet", x.breakUp(1, 0), 2);
        due("its cases are on none", x.box(0, 2), NONE);
        due("its cases are on none", x.box(1, 2), NONE);
        due("those of others stay", x.box(2, 2), 1);
        due("its cases are closed yet", x.box(0, 1), 1);
        due("with their units", x.box(0, 0), 4);
        due("again", x.breakUp(1, 0), 0);
        due("a closed case", x.breakUp(0, 0), 4);
        due("is open", x.box(0, 1), 0);
        due("its units are in none", x.code(3, 0), NONE);
        due("those of the next stay", x.code(4, 0), 1);
    }

    private static void putTogetherAgain() {
        Due.part("18 breakUp, and again");
        CaseLine x = withCodes(30);
        fill(x, 0, 0, 1, 2, 3);
        x.stack(0, 3);
        x.seal(3);
        x.breakUp(1, 3);
        due("on another", x.stack(0, 4), 1);
        x.breakUp(1, 4);
        x.breakUp(0, 0);
        fill(x, 7, 3, 2, 1, 20);
        due("stack", x.stack(7, 3), 1);
        due("its pallet", x.code(20, 1), 3);
        due("in none", x.code(0, 1), NONE);
        due("least", x.box(7, 3), 1);
        due("greatest", x.box(7, 4), 20);
    }

    private static void code() {
        Due.part("19 code");
        CaseLine x = withCodes(6);
        int[] codes = {-1, 6, 199, 200, LOW, TOP};
        for (int code : codes) {
            due("code " + code, x.code(code, 0), BAD);
        }
        int[] whats = {-1, 4, LOW, TOP};
        for (int what : whats) {
            due("what " + what, x.code(0, what), BAD);
        }
        int[] first = {NONE, NONE, 0, NONE};
        for (int what = 0; what < 4; what++) {
            due("at first " + what, x.code(5, what), first[what]);
        }
        x.rule(0, 2);
        fill(x, 29, 5, 0);
        due("its case", x.code(5, 0), 29);
        due("on none", x.code(5, 1), NONE);
        x.stack(29, 5);
        due("its pallet", x.code(5, 1), 5);
        due("of the other", x.code(0, 1), 5);
        due("not weighed", x.code(5, 3), NONE);
        x.scale(5, 0);
        due("weighed", x.code(5, 3), 0);
        due("the next is not", x.code(4, 3), NONE);
    }

    private static void box() {
        Due.part("20 box");
        CaseLine x = withCodes(12);
        int[] boxes = {-1, 30, LOW, TOP};
        for (int box : boxes) {
            due("case " + box, x.box(box, 0), BAD);
        }
        int[] whats = {-1, 5, LOW, TOP};
        for (int what : whats) {
            due("what " + what, x.box(0, what), BAD);
        }
        int[] states = {0, 0, NONE, NONE, NONE};
        look(x, "at first", states);
        x.pack(0, 6);
        look(x, "code 0 alone", new int[] {1, 0, NONE, 0, 0});
        x.breakUp(0, 6);
        x.pack(8, 6);
        look(x, "one", new int[] {1, 0, NONE, 8, 8});
        x.pack(11, 6);
        x.pack(3, 6);
        x.pack(5, 6);
        look(x, "four", new int[] {4, 0, NONE, 3, 11});
        x.close(6);
        look(x, "closed", new int[] {4, 1, NONE, 3, 11});
        x.stack(6, 0);
        look(x, "stacked", new int[] {4, 1, 0, 3, 11});
        x.breakUp(1, 0);
        x.breakUp(0, 6);
        look(x, "at last", states);
    }

    private static void look(CaseLine x, String when, int[] want) {
        for (int what = 0; what < 5; what++) {
            due(when + " " + what, x.box(6, what), want[what]);
        }
    }

    private static void recall() {
        Due.part("21 recall");
        CaseLine x = new CaseLine();
        int[] lots = {-1, 16, LOW, TOP};
        for (int lot : lots) {
            due("lot " + lot, x.recall(lot, 0), BAD);
        }
        int[] whats = {-1, 3, LOW, TOP};
        for (int what : whats) {
            due("what " + what, x.recall(0, what), BAD);
        }
        x.supply(20);
        x.ticks(8);
        x.lot(15);
        x.ticks(14);
        // Codes 0 to 5 are of lot 0, 6 to 19 of lot 15.
        due("loose of 0", x.recall(0, 2), 6);
        due("loose of 15", x.recall(15, 2), 14);
        due("loose of 1", x.recall(1, 2), 0);
        due("cases of 0", x.recall(0, 0), 0);
        x.rule(0, 2);
        fill(x, 0, 0, 1);
        fill(x, 29, 5, 6);
        x.pack(7, 4);
        due("cases of 0", x.recall(0, 0), 1 << 29 | 1);
        due("cases of 15", x.recall(15, 0), 1 << 29 | 1 << 4);
        due("cases of 1", x.recall(1, 0), 0);
        due("no pallets yet", x.recall(0, 1), 0);
        x.stack(0, 1);
        due("pallets of 0", x.recall(0, 1), 2);
        due("pallets of 15", x.recall(15, 1), 0);
        x.stack(29, 5);
        x.seal(5);
        due("pallets of 0", x.recall(0, 1), 34);
        due("pallets of 15", x.recall(15, 1), 32);
        due("loose of 0", x.recall(0, 2), 3);
        due("loose of 15", x.recall(15, 2), 12);
        x.breakUp(1, 5);
        due("pallets of 15 no more", x.recall(15, 1), 0);
        due("cases as before", x.recall(15, 0), 1 << 29 | 1 << 4);
        x.rule(0, 2);
        x.breakUp(1, 1);
        x.breakUp(0, 0);
        x.rule(0, 2);
        fill(x, 1, 0, 8);
        x.stack(1, 3);
        due("pallets of 0, by code 0 alone", x.recall(0, 1), 8);
    }

    private static void recallOfMany() {
        Due.part("21 recall of all lots");
        CaseLine x = new CaseLine();
        x.supply(16);
        x.ticks(2);
        for (int lot = 0; lot < 16; lot++) {
            x.lot(lot);
            x.ticks(1);
        }
        for (int lot = 0; lot < 16; lot++) {
            x.pack(lot, 2 * (lot % 8));
        }
        for (int lot = 0; lot < 16; lot++) {
            due("lot of " + lot, x.code(lot, 2), lot);
            due("cases of " + lot, x.recall(lot, 0), 1 << 2 * (lot % 8));
            due("loose of " + lot, x.recall(lot, 2), 0);
        }
    }
}
