/** "Terms", part 2, and promises 12 to 21: a test for each sentence that names a boundary case. */
public final class EdgesOfCodesTest {
    private static final int BAD = -1, NO = -2, FULL = -3, NONE = -4;

    public static void main(String[] args) {
        termsOneCase();
        termsOnePallet();
        termsOpenAtFirst();
        termsPacked();
        termsCaseHoldsSize();
        termsMayBeClosed();
        termsPalletHoldsHigh();
        termsPalletBrokenUp();
        termsCaseBrokenUp();
        termsRecall();
        weightOneUnitLess();
        weightWithinTolerance();
        weightJustOneHasNoCase();
        weightBetweenLeastAndGreatest();
        weightIsInItThen();
        ruleSize();
        ruleHigh();
        ruleUnit();
        ruleTare();
        ruleTolerance();
        ruleCleaning();
        ruleBad();
        ruleCaseHoldsMore();
        rulePalletHoldsMore();
        ruleOfSeveral();
        packHowMany();
        packBad();
        packNoSuchCode();
        packItIsInACase();
        packTheCaseIsClosed();
        packFull();
        packOfSeveral();
        closeZero();
        closeBad();
        closeItIs();
        closeHasNotSizeUnits();
        weighTheCodeThatWasLost();
        weighBad();
        weighNo();
        weighOfSeveral();
        stackHowMany();
        stackBad();
        stackTheCaseIsOpen();
        stackOnAPallet();
        stackThePalletIsClosed();
        stackFull();
        stackOfSeveral();
        sealHowMany();
        sealBad();
        sealItIsOrHasNone();
        breakUpHowMany();
        breakUpBad();
        breakUpOnAPallet();
        codeNoneEach();
        codeBad();
        boxOfEach();
        boxBad();
        recallAsBits();
        recallInNoCase();
        recallBad();
        Due.end();
    }

    private static void due(String call, long got, long want) {
        Due.due(call, got, want);
    }

    private static void bad(String call, Behind.Call on) {
        Behind.refused(call, BAD, Behind.BUSY, on);
    }

    private static void no(String call, Behind.Call on) {
        Behind.refused(call, NO, Behind.BUSY, on);
    }

    private static void full(String call, Behind.Call on) {
        Behind.refused(call, FULL, Behind.BUSY, on);
    }

    /**
     * 16 codes, 0 to 7 of lot 3, 8 to 15 of lot 7. SIZE 2, HIGH 2. Case 0 (codes 0, 1) and case 1 (2, 3)
     * on pallet 0, case 2 (4, 5) on pallet 1, which is closed; case 3 (6, 7) closed; open are case 4
     * (8), case 5 (9, 10), case 29 (11); 12 to 15 are in none.
     */
    private static CaseLine busy() {
        CaseLine x = new CaseLine();
        Behind.BUSY.make(x);
        return x;
    }

    private static CaseLine withCodes(int units) {
        CaseLine x = new CaseLine();
        makeCodes(x, units);
        return x;
    }

    private static void makeCodes(CaseLine x, int units) {
        x.supply(units);
        x.ticks(units + 2);
    }

    private static void packAll(CaseLine x, int box, int... units) {
        for (int code : units) {
            x.pack(code, box);
        }
    }

    private static void termsOneCase() {
        Due.part("Terms 2: CODES of units have at most one CASE (0 to 29)");
        CaseLine x = withCodes(3);
        due("the least", x.pack(0, 0), 1);
        due("the greatest", x.pack(1, 29), 1);
        due("in a second", x.pack(0, 29), NO);
        due("in a second", x.pack(1, 0), NO);
        due("its case", x.code(0, 0), 0);
        due("its case", x.code(1, 0), 29);
        due("none", x.code(2, 0), NONE);
        due("case 30", x.pack(2, 30), BAD);
        due("case -1", x.pack(2, -1), BAD);
    }

    private static void termsOnePallet() {
        Due.part("Terms 2: CASES at most one PALLET (0 to 5)");
        CaseLine x = withCodes(3);
        x.rule(0, 1);
        for (int i = 0; i < 3; i++) {
            x.pack(i, i);
            x.close(i);
        }
        due("the least", x.stack(0, 0), 1);
        due("the greatest", x.stack(1, 5), 1);
        due("on a second", x.stack(0, 5), NO);
        due("on a second", x.stack(1, 0), NO);
        due("its pallet", x.box(0, 2), 0);
        due("its pallet", x.box(1, 2), 5);
        due("none", x.box(2, 2), NONE);
        due("pallet 6", x.stack(2, 6), BAD);
        due("pallet -1", x.stack(2, -1), BAD);
    }

    private static void termsOpenAtFirst() {
        Due.part("Terms 2: A CASE is OPEN (at first), or CLOSED; a PALLET likewise");
        CaseLine x = withCodes(40);
        x.rule(0, 1);
        for (int box = 0; box < 30; box++) {
            due("case " + box + " at first", x.box(box, 1), 0);
            due("it is packed", x.pack(box, box), 1);
            x.close(box);
            due("case " + box + " then", x.box(box, 1), 1);
        }
        for (int pallet = 0; pallet < 6; pallet++) {
            due("pallet " + pallet + " at first", x.stack(pallet, pallet), 1);
            due("seal", x.seal(pallet), 1);
            due("pallet " + pallet + " then", x.stack(20, pallet), NO);
        }
    }

    private static void termsPacked() {
        Due.part("Terms 2: PACKED is a unit (with a CODE, in no CASE) in an OPEN CASE");
        no("without a code", x -> x.pack(16, 6));
        no("in a case", x -> x.pack(8, 6));
        no("in a closed case", x -> x.pack(12, 3));
        CaseLine x = busy();
        due("with a code, in no case, an open case", x.pack(12, 6), 1);
    }

    private static void termsCaseHoldsSize() {
        Due.part("Terms 2: a CASE holds SIZE units (1 to 12; 4 at first)");
        for (int size = 1; size <= 12; size++) {
            CaseLine x = withCodes(20);
            if (size != 4) {
                due("4 at first", x.rule(0, size), 4);
            }
            for (int i = 0; i < size; i++) {
                due("unit " + (i + 1) + " of " + size, x.pack(i, 7), i + 1);
            }
            due("one more than " + size, x.pack(size, 7), FULL);
            due("it is in none", x.code(size, 0), NONE);
        }
    }

    private static void termsMayBeClosed() {
        Due.part("Terms 2: A CASE with SIZE units may be CLOSED");
        for (int size = 1; size <= 12; size++) {
            CaseLine x = withCodes(20);
            x.rule(0, size);
            for (int i = 0; i < size; i++) {
                due(i + " of " + size, x.close(7), NO);
                x.pack(i, 7);
            }
            due("with all " + size, x.close(7), 0);
        }
    }

    private static void termsPalletHoldsHigh() {
        Due.part("Terms 2: STACKED is a CLOSED CASE on an OPEN PALLET, which holds HIGH (1 to 20; 6 at first)");
        for (int high : new int[] {1, 2, 6, 19, 20}) {
            CaseLine x = withCodes(30);
            x.rule(0, 1);
            if (high != 6) {
                due("6 at first", x.rule(1, high), 6);
            }
            for (int i = 0; i <= high; i++) {
                x.pack(i, i);
                x.close(i);
            }
            for (int i = 0; i < high; i++) {
                due("case " + (i + 1) + " of " + high, x.stack(i, 3), i + 1);
            }
            due("one more than " + high, x.stack(high, 3), FULL);
            due("it is on none", x.box(high, 2), NONE);
        }
    }

    private static void termsPalletBrokenUp() {
        Due.part("Terms 2: BROKEN UP: a PALLET: its CASES are on none, it is OPEN");
        CaseLine x = busy();
        due("a closed one", x.breakUp(1, 1), 1);
        due("its case is on none", x.box(2, 2), NONE);
        due("which is closed yet", x.box(2, 1), 1);
        due("its units are in it yet", x.box(2, 0), 2);
        due("it is open", x.stack(2, 1), 1);
        due("those of others stay", x.box(0, 2), 0);
        due("a full one", x.breakUp(1, 0), 2);
        due("on none", x.box(0, 2), NONE);
        due("on none", x.box(1, 2), NONE);
        due("none is left on it", x.seal(0), NO);
        due("room for two", x.stack(3, 0) + x.stack(0, 0), 3);
    }

    private static void termsCaseBrokenUp() {
        Due.part("Terms 2: BROKEN UP: a CASE (on no PALLET): its units are in none, it is OPEN");
        CaseLine x = busy();
        due("a closed one", x.breakUp(0, 3), 2);
        due("in none", x.code(6, 0), NONE);
        due("in none", x.code(7, 0), NONE);
        due("none is in it", x.box(3, 0), 0);
        due("nor a least", x.box(3, 3), NONE);
        due("open", x.box(3, 1), 0);
        due("those of others stay", x.code(8, 0), 4);
        due("room for two", x.pack(12, 3) + x.pack(6, 3), 3);
        no("one on an open pallet", y -> y.breakUp(0, 0));
        no("one on a closed pallet", y -> y.breakUp(0, 2));
    }

    private static void termsRecall() {
        Due.part("Terms 2: RECALL of a LOT: all CASES, PALLETS that have a unit of it");
        CaseLine x = busy();
        due("cases of lot 3", x.recall(3, 0), 0b1111);
        due("pallets of lot 3", x.recall(3, 1), 0b11);
        due("cases of lot 7", x.recall(7, 0), 1 << 29 | 0b110000);
        due("pallets of lot 7", x.recall(7, 1), 0);
        due("one unit of it will do", x.pack(6, 4), NO);
        x.breakUp(0, 3);
        x.pack(7, 4);
        due("one unit of it does", x.recall(3, 0), 0b10111);
        due("and of the other", x.recall(7, 0), 1 << 29 | 0b110000);
        due("a lot that was never", x.recall(0, 0) + x.recall(0, 1) + x.recall(0, 2), 0);
    }

    /** 20 codes; SIZE 4, UNIT 100, TARE 50, TOLERANCE 5, so 450 is due. Case 0 has 2, 3, 5. */
    private static final Behind.State ONE_LOST = x -> {
        makeCodes(x, 20);
        packAll(x, 0, 2, 3, 5);
    };

    private static void weightOneUnitLess() {
        Due.part("Terms 2: BY WEIGHT: an OPEN CASE that has just one unit less");
        CaseLine x = new CaseLine();
        ONE_LOST.make(x);
        due("one less", x.weigh(0, 450), 4);
        due("closed: no more", x.weigh(0, 450), NO);
        packAll(x, 1, 10, 12);
        due("two less", x.weigh(1, 450), NO);
        due("an empty one", x.weigh(2, 450), NO);
        packAll(x, 1, 13, 14);
        due("none less", x.weigh(1, 450), NO);
        due("open yet", x.box(1, 1), 0);
        x.rule(0, 5);
        due("one less than the new SIZE", x.weigh(1, 550), 11);
        for (int size = 3; size <= 12; size++) {
            x = withCodes(20);
            x.rule(0, size);
            for (int i = 0; i < size; i++) {
                if (i != 1) {
                    x.pack(i, 9);
                }
            }
            due("SIZE " + size, x.weigh(9, 100 * size + 50), 1);
            due("all in it", x.box(9, 0), size);
        }
        x = withCodes(20);
        x.rule(0, 1);
        due("SIZE 1: none is in it, nothing between", x.weigh(3, 150), NO);
        x.rule(0, 2);
        x.pack(5, 3);
        due("SIZE 2: one alone, nothing between", x.weigh(3, 250), NO);
    }

    private static void weightWithinTolerance() {
        Due.part("Terms 2: BY WEIGHT: the weight told is off SIZE times UNIT and TARE by no more than TOLERANCE");
        for (int tolerance : new int[] {0, 5, 450}) {
            for (int off : new int[] {-tolerance - 1, -tolerance, 0, tolerance, tolerance + 1}) {
                CaseLine x = new CaseLine();
                ONE_LOST.make(x);
                x.rule(4, tolerance);
                boolean within = off >= -tolerance && off <= tolerance;
                if (450 + off >= 0) {
                    due("off by " + off + ", TOLERANCE " + tolerance, x.weigh(0, 450 + off), within ? 4 : NO);
                    due("closed", x.box(0, 1), within ? 1 : 0);
                }
            }
        }
        Behind.refused("one below", NO, ONE_LOST, x -> x.weigh(0, 444));
        Behind.refused("one above", NO, ONE_LOST, x -> x.weigh(0, 456));
        CaseLine x = new CaseLine();
        ONE_LOST.make(x);
        x.rule(2, 10000);
        x.rule(3, 10000);
        x.rule(4, 1000);
        due("the greatest, one above", x.weigh(0, 51001), NO);
        due("the greatest, one below", x.weigh(0, 48999), NO);
        due("the greatest", x.weigh(0, 51000), 4);
        x = new CaseLine();
        ONE_LOST.make(x);
        x.rule(2, 0);
        x.rule(3, 0);
        x.rule(4, 0);
        due("nothing is due, 1 is told", x.weigh(0, 1), NO);
        due("nothing is due or told", x.weigh(0, 0), 4);
    }

    private static void weightJustOneHasNoCase() {
        Due.part("Terms 2: BY WEIGHT: of CODES between the least and the greatest in it just one has no CASE");
        CaseLine x = withCodes(20);
        packAll(x, 0, 4, 5, 6);
        due("there is none between", x.weigh(0, 450), NO);
        packAll(x, 1, 8, 10, 12);
        due("two have none", x.weigh(1, 450), NO);
        x.pack(11, 2);
        due("just one has none", x.weigh(1, 450), 9);
        packAll(x, 3, 13, 15, 17);
        packAll(x, 2, 14, 16);
        due("all have one", x.weigh(3, 450), NO);
        x.breakUp(0, 2);
        x.pack(14, 4);
        due("one has none again", x.weigh(3, 450), 16);
    }

    private static void weightBetweenLeastAndGreatest() {
        Due.part("Terms 2: BY WEIGHT: between the least and the greatest in it");
        CaseLine x = withCodes(5);
        packAll(x, 0, 1, 2, 3);
        due("one below the least, one above the greatest", x.weigh(0, 450), NO);
        x.breakUp(0, 0);
        packAll(x, 0, 4, 0, 1);
        x.pack(2, 5);
        due("from code 0 to the last, packed in any order", x.weigh(0, 450), 3);
        x = withCodes(250);
        packAll(x, 0, 196, 197, 199);
        due("up to code 199", x.weigh(0, 450), 198);
    }

    private static void weightIsInItThen() {
        Due.part("Terms 2: BY WEIGHT: that is in it, then, and it is CLOSED");
        CaseLine x = new CaseLine();
        ONE_LOST.make(x);
        due("weigh", x.weigh(0, 450), 4);
        due("its case", x.code(4, 0), 0);
        due("units", x.box(0, 0), 4);
        due("closed", x.box(0, 1), 1);
        due("it can't be packed", x.pack(4, 1), NO);
        due("it can be stacked", x.stack(0, 5), 1);
        due("the code's pallet", x.code(4, 1), 5);
        x.breakUp(1, 5);
        due("and broken up", x.breakUp(0, 0), 4);
        due("in none", x.code(4, 0), NONE);
    }

    private static void ruleEnds(int what, int least, int most, int first) {
        CaseLine x = new CaseLine();
        due("the greatest", x.rule(what, most), first);
        due("the same", x.rule(what, most), most);
        due("the least", x.rule(what, least), most);
        due("what it was", x.rule(what, least + 1), least);
        Behind.outside("rule " + what, least, most, Behind.BUSY, (y, v) -> y.rule(what, v));
        Behind.outside("rule " + what, least, most, Behind.FRESH, (y, v) -> y.rule(what, v));
    }

    private static void ruleSize() {
        Due.part("Promise 12, rule: SIZE (0; 1 to 12): what it was");
        ruleEnds(0, 1, 12, 4);
    }

    private static void ruleHigh() {
        Due.part("Promise 12, rule: HIGH (1; 1 to 20): what it was");
        ruleEnds(1, 1, 20, 6);
    }

    private static void ruleUnit() {
        Due.part("Promise 12, rule: UNIT (2; 0 to 10000): what it was");
        ruleEnds(2, 0, 10000, 100);
    }

    private static void ruleTare() {
        Due.part("Promise 12, rule: TARE (3; 0 to 10000): what it was");
        ruleEnds(3, 0, 10000, 50);
    }

    private static void ruleTolerance() {
        Due.part("Promise 12, rule: TOLERANCE (4; 0 to 1000): what it was");
        ruleEnds(4, 0, 1000, 5);
    }

    private static void ruleCleaning() {
        Due.part("Promise 12, rule: CLEANING (5; 0 to 500): what it was");
        ruleEnds(5, 0, 500, 60);
    }

    private static void ruleBad() {
        Due.part("Promise 12, rule: BAD (what not 0 to 5)");
        Behind.outside("what", 0, 5, Behind.BUSY, (x, v) -> x.rule(v, 2));
        Behind.outside("what", 0, 5, Behind.FRESH, (x, v) -> x.rule(v, 2));
    }

    private static void ruleCaseHoldsMore() {
        Due.part("Promise 12, rule: NO: a CASE holds more (0)");
        no("closed ones and open ones hold two", x -> x.rule(0, 1));
        CaseLine x = busy();
        due("just as many", x.rule(0, 2), 2);
        for (int box : new int[] {0, 29}) {
            Behind.State one = y -> {
                makeCodes(y, 20);
                packAll(y, box, 0, 1, 2);
            };
            Behind.refused("case " + box + " has three", NO, one, y -> y.rule(0, 2));
            Behind.refused("case " + box + " has three", NO, one, y -> y.rule(0, 1));
            x = new CaseLine();
            one.make(x);
            due("three", x.rule(0, 3), 4);
            due("more", x.rule(0, 12), 3);
            x.breakUp(0, box);
            due("none has any", x.rule(0, 1), 12);
        }
        Behind.State twelve = y -> {
            makeCodes(y, 20);
            y.rule(0, 12);
            packAll(y, 3, 0, 1, 2, 3, 4, 5, 6, 7, 8, 9, 10, 11);
        };
        Behind.refused("a case has twelve", NO, twelve, y -> y.rule(0, 11));
    }

    private static void rulePalletHoldsMore() {
        Due.part("Promise 12, rule: NO: a PALLET holds more (1)");
        no("pallet 0 has two", x -> x.rule(1, 1));
        CaseLine x = busy();
        due("just as many", x.rule(1, 2), 2);
        x.breakUp(1, 0);
        due("one has one", x.rule(1, 1), 2);
        for (int pallet : new int[] {0, 5}) {
            Behind.State twenty = y -> {
                makeCodes(y, 20);
                y.rule(0, 1);
                y.rule(1, 20);
                for (int i = 0; i < 20; i++) {
                    y.pack(i, i);
                    y.close(i);
                    y.stack(i, pallet);
                }
            };
            Behind.refused("pallet " + pallet + " has twenty", NO, twenty, y -> y.rule(1, 19));
            Behind.State closed = y -> {
                twenty.make(y);
                y.seal(pallet);
            };
            Behind.refused("when it is closed, too", NO, closed, y -> y.rule(1, 1));
        }
    }

    private static void ruleOfSeveral() {
        Due.part("Promise 12, rule: Of several the first (BAD, NO); nothing changes then");
        bad("SIZE 0, and cases hold more", x -> x.rule(0, 0));
        bad("HIGH 0, and a pallet holds more", x -> x.rule(1, 0));
        bad("SIZE -1", x -> x.rule(0, -1));
        bad("HIGH LOW", x -> x.rule(1, Behind.LOW));
    }

    private static void packHowMany() {
        Due.part("Promise 13, pack: PACKED: how many the CASE has");
        CaseLine x = withCodes(250);
        x.rule(0, 3);
        due("the least code in the least case", x.pack(0, 0), 1);
        due("the greatest code in it", x.pack(199, 0), 2);
        due("a third", x.pack(100, 0), 3);
        due("the greatest case", x.pack(1, 29), 1);
    }

    private static void packBad() {
        Due.part("Promise 13, pack: BAD (a CODE not 0 to 199)");
        Behind.outside("code", 0, 199, Behind.BUSY, (x, v) -> x.pack(v, 6));
        Behind.outside("case", 0, 29, Behind.BUSY, (x, v) -> x.pack(12, v));
        Behind.outside("code", 0, 199, Behind.FRESH, (x, v) -> x.pack(v, 0));
    }

    private static void packNoSuchCode() {
        Due.part("Promise 13, pack: NO: no such CODE");
        no("the one that comes next", x -> x.pack(16, 6));
        no("the greatest", x -> x.pack(199, 6));
        Behind.refused("none at all", NO, Behind.FRESH, x -> x.pack(0, 0));
        CaseLine x = busy();
        due("the last that is", x.pack(15, 6), 1);
    }

    private static void packItIsInACase() {
        Due.part("Promise 13, pack: NO: it is in a CASE");
        no("in an open one", x -> x.pack(8, 6));
        no("in the same", x -> x.pack(8, 4));
        no("in a closed one", x -> x.pack(6, 6));
        no("on a pallet", x -> x.pack(0, 6));
        no("case 0 is one", x -> x.pack(1, 29));
    }

    private static void packTheCaseIsClosed() {
        Due.part("Promise 13, pack: NO: the CASE is CLOSED");
        no("closed", x -> x.pack(12, 3));
        no("closed, on a pallet", x -> x.pack(12, 0));
        CaseLine x = busy();
        x.rule(0, 12);
        due("closed, though SIZE is more now", x.pack(12, 3), NO);
        due("open", x.pack(12, 5), 3);
    }

    private static void packFull() {
        Due.part("Promise 13, pack: FULL");
        full("two of two", x -> x.pack(12, 5));
        CaseLine x = busy();
        due("one of two", x.pack(12, 4), 2);
        due("now two", x.pack(13, 4), FULL);
        x.rule(0, 3);
        due("SIZE is more now", x.pack(13, 4), 3);
    }

    private static void packOfSeveral() {
        Due.part("Promise 13, pack: Of several the first (BAD, NO, FULL); nothing changes then");
        bad("no number of a code, a closed case", x -> x.pack(200, 3));
        bad("no case, a code in a case", x -> x.pack(0, 30));
        bad("no number of a code, a full case", x -> x.pack(-1, 5));
        no("no such code, a full case", x -> x.pack(16, 5));
        no("in a case, a full case", x -> x.pack(8, 5));
        no("in the same full case", x -> x.pack(9, 5));
        no("closed, and full", x -> x.pack(12, 2));
    }

    private static void closeZero() {
        Due.part("Promise 14, close: A CASE is CLOSED: 0");
        CaseLine x = busy();
        due("close", x.close(5), 0);
        due("closed", x.box(5, 1), 1);
        x.pack(12, 29);
        due("the greatest", x.close(29), 0);
    }

    private static void closeBad() {
        Due.part("Promise 14, close: BAD");
        Behind.outside("case", 0, 29, Behind.BUSY, (x, v) -> x.close(v));
        Behind.outside("case", 0, 29, Behind.FRESH, (x, v) -> x.close(v));
    }

    private static void closeItIs() {
        Due.part("Promise 14, close: NO: it is");
        no("closed", x -> x.close(3));
        no("on a pallet", x -> x.close(0));
        no("on a closed pallet", x -> x.close(2));
    }

    private static void closeHasNotSizeUnits() {
        Due.part("Promise 14, close: NO: has not SIZE units");
        no("one of two", x -> x.close(4));
        no("one of two", x -> x.close(29));
        no("none", x -> x.close(6));
        Behind.refused("none", NO, Behind.FRESH, x -> x.close(0));
        CaseLine x = busy();
        x.rule(0, 3);
        due("two of three now", x.close(5), NO);
        due("open yet", x.box(5, 1), 0);
        x.pack(12, 5);
        due("three", x.close(5), 0);
    }

    private static void weighTheCodeThatWasLost() {
        Due.part("Promise 15, weigh: BY WEIGHT: the CODE that was lost");
        CaseLine x = withCodes(20);
        packAll(x, 0, 0, 2, 3);
        packAll(x, 29, 7, 8, 10);
        due("in the least case", x.weigh(0, 450), 1);
        due("in the greatest case", x.weigh(29, 450), 9);
    }

    private static void weighBad() {
        Due.part("Promise 15, weigh: BAD (weight 0 to 1000000)");
        Behind.outside("weight", 0, 1000000, ONE_LOST, (x, v) -> x.weigh(0, v));
        Behind.outside("case", 0, 29, ONE_LOST, (x, v) -> x.weigh(v, 450));
        Behind.outside("weight", 0, 1000000, Behind.BUSY, (x, v) -> x.weigh(4, v));
        Behind.refused("the greatest is a weight", NO, ONE_LOST, x -> x.weigh(0, 1000000));
        Behind.refused("the least is a weight", NO, ONE_LOST, x -> x.weigh(0, 0));
    }

    private static void weighNo() {
        Due.part("Promise 15, weigh: NO");
        no("closed", x -> x.weigh(3, 250));
        no("on a pallet", x -> x.weigh(0, 250));
        no("it has all", x -> x.weigh(5, 250));
        no("one alone, nothing between", x -> x.weigh(4, 250));
        no("an empty one", x -> x.weigh(6, 250));
        Behind.State noneBetween = x -> {
            makeCodes(x, 20);
            packAll(x, 0, 2, 3, 4);
        };
        Behind.refused("none between", NO, noneBetween, x -> x.weigh(0, 450));
        Behind.State twoBetween = x -> {
            makeCodes(x, 20);
            packAll(x, 0, 2, 4, 6);
        };
        Behind.refused("two between", NO, twoBetween, x -> x.weigh(0, 450));
        Behind.State twoLess = x -> {
            makeCodes(x, 20);
            packAll(x, 0, 2, 4);
        };
        Behind.refused("two less", NO, twoLess, x -> x.weigh(0, 450));
        Behind.State sizeOne = x -> {
            makeCodes(x, 20);
            x.rule(0, 1);
        };
        Behind.refused("an empty one, SIZE 1", NO, sizeOne, x -> x.weigh(0, 150));
    }

    private static void weighOfSeveral() {
        Due.part("Promise 15, weigh: Of several the first (BAD, NO); nothing changes then");
        bad("no weight, a closed case", x -> x.weigh(3, -1));
        bad("no weight, an empty case", x -> x.weigh(6, 1000001));
        bad("no case, a weight that is off", x -> x.weigh(30, 0));
    }

    private static void stackHowMany() {
        Due.part("Promise 16, stack: STACKED: how many the PALLET has");
        CaseLine x = busy();
        due("the greatest pallet", x.stack(3, 5), 1);
        x.close(5);
        due("a second", x.stack(5, 5), 2);
        x.breakUp(1, 0);
        due("the least pallet", x.stack(0, 0), 1);
    }

    private static void stackBad() {
        Due.part("Promise 16, stack: BAD");
        Behind.outside("case", 0, 29, Behind.BUSY, (x, v) -> x.stack(v, 2));
        Behind.outside("pallet", 0, 5, Behind.BUSY, (x, v) -> x.stack(3, v));
    }

    private static void stackTheCaseIsOpen() {
        Due.part("Promise 16, stack: NO: the CASE is OPEN");
        no("with one", x -> x.stack(4, 2));
        no("with all", x -> x.stack(5, 2));
        no("with none", x -> x.stack(6, 2));
    }

    private static void stackOnAPallet() {
        Due.part("Promise 16, stack: NO: the CASE is on a PALLET");
        no("on another", x -> x.stack(2, 2));
        no("case 0 on pallet 0", x -> x.stack(0, 2));
        CaseLine x = busy();
        x.rule(1, 3);
        due("on the same, with room", x.stack(0, 0), NO);
    }

    private static void stackThePalletIsClosed() {
        Due.part("Promise 16, stack: NO: the PALLET is CLOSED");
        no("with room", x -> x.stack(3, 1));
        CaseLine x = busy();
        x.seal(0);
        due("and full", x.stack(3, 0), NO);
        x.breakUp(1, 0);
        due("open again", x.stack(3, 0), 1);
    }

    private static void stackFull() {
        Due.part("Promise 16, stack: FULL");
        full("two of two", x -> x.stack(3, 0));
        CaseLine x = busy();
        x.rule(1, 3);
        due("HIGH is more now", x.stack(3, 0), 3);
    }

    private static void stackOfSeveral() {
        Due.part("Promise 16, stack: Of several the first (BAD, NO, FULL); nothing changes then");
        bad("no case, a closed pallet", x -> x.stack(30, 1));
        bad("no pallet, an open case", x -> x.stack(4, 6));
        bad("no case, a full pallet", x -> x.stack(-1, 0));
        no("an open case, a full pallet", x -> x.stack(4, 0));
        no("on the full pallet", x -> x.stack(1, 0));
        no("on another, a full pallet", x -> x.stack(2, 0));
    }

    private static void sealHowMany() {
        Due.part("Promise 17, seal: A PALLET is CLOSED: how many CASES");
        CaseLine x = busy();
        due("the least pallet", x.seal(0), 2);
        x.stack(3, 5);
        due("the greatest pallet", x.seal(5), 1);
        due("its case is on it", x.box(3, 2), 5);
    }

    private static void sealBad() {
        Due.part("Promise 17, seal: BAD");
        Behind.outside("pallet", 0, 5, Behind.BUSY, (x, v) -> x.seal(v));
        Behind.outside("pallet", 0, 5, Behind.FRESH, (x, v) -> x.seal(v));
    }

    private static void sealItIsOrHasNone() {
        Due.part("Promise 17, seal: NO: it is, or has none");
        no("closed", x -> x.seal(1));
        no("none on it", x -> x.seal(2));
        no("none on the last", x -> x.seal(5));
        Behind.refused("none on the first", NO, Behind.FRESH, x -> x.seal(0));
        CaseLine x = busy();
        x.breakUp(1, 0);
        due("none on it any more", x.seal(0), NO);
    }

    private static void breakUpHowMany() {
        Due.part("Promise 18, breakUp: BROKEN UP: a CASE (what = 0), a PALLET (1): how many units, CASES it had");
        CaseLine x = busy();
        due("an empty case", x.breakUp(0, 6), 0);
        due("the greatest case", x.breakUp(0, 29), 1);
        due("an open one", x.breakUp(0, 5), 2);
        due("again", x.breakUp(0, 5), 0);
        due("an empty pallet", x.breakUp(1, 2), 0);
        due("the greatest pallet", x.breakUp(1, 5), 0);
        due("the least pallet", x.breakUp(1, 0), 2);
        due("again", x.breakUp(1, 0), 0);
        due("the least case", x.breakUp(0, 0), 2);
    }

    private static void breakUpBad() {
        Due.part("Promise 18, breakUp: BAD");
        Behind.outside("what", 0, 1, Behind.BUSY, (x, v) -> x.breakUp(v, 3));
        Behind.outside("case", 0, 29, Behind.BUSY, (x, v) -> x.breakUp(0, v));
        Behind.outside("pallet", 0, 5, Behind.BUSY, (x, v) -> x.breakUp(1, v));
        bad("a case's number is none of a pallet", x -> x.breakUp(1, 29));
    }

    private static void breakUpOnAPallet() {
        Due.part("Promise 18, breakUp: NO: the CASE is on a PALLET");
        no("on pallet 0", x -> x.breakUp(0, 0));
        no("on pallet 0", x -> x.breakUp(0, 1));
        no("on a closed one", x -> x.breakUp(0, 2));
        CaseLine x = busy();
        x.breakUp(1, 1);
        due("on none any more", x.breakUp(0, 2), 2);
    }

    private static void codeNoneEach() {
        Due.part("Promise 19, code: 0 its CASE, 1 its PALLET, 2 its LOT, 3 its weight (NONE each)");
        CaseLine x = busy();
        int[][] want = {{0, 0, 3, 93}, {2, 1, 3, 108}, {3, NONE, 3, NONE}, {29, NONE, 7, NONE}, {NONE, NONE, 7, NONE}};
        int[] codes = {0, 5, 7, 11, 15};
        for (int i = 0; i < codes.length; i++) {
            for (int what = 0; what < 4; what++) {
                due("code " + codes[i] + " " + what, x.code(codes[i], what), want[i][what]);
            }
        }
        x.scale(15, 0);
        due("a weight of 0", x.code(15, 3), 0);
        x.scale(15, 10000);
        due("a weight of 10000", x.code(15, 3), 10000);
    }

    private static void codeBad() {
        Due.part("Promise 19, code: BAD: no such CODE");
        for (int what = 0; what < 4; what++) {
            int of = what;
            Behind.outside("code", 0, 15, Behind.BUSY, (x, v) -> x.code(v, of));
            Behind.refused("none at all", BAD, Behind.FRESH, x -> x.code(0, of));
        }
        Behind.outside("what", 0, 3, Behind.BUSY, (x, v) -> x.code(0, v));
        Behind.outside("what", 0, 3, Behind.BUSY, (x, v) -> x.code(15, v));
        CaseLine x = withCodes(250);
        due("the greatest", x.code(199, 2), 0);
        due("200", x.code(200, 2), BAD);
    }

    private static void boxOfEach() {
        Due.part("Promise 20, box: 0 units, 1 1 CLOSED, 2 its PALLET (NONE), 3 the least CODE in it (NONE), 4 the greatest");
        CaseLine x = busy();
        int[][] want = {{2, 1, 0, 0, 1}, {2, 1, 1, 4, 5}, {2, 1, NONE, 6, 7}, {1, 0, NONE, 8, 8}, {2, 0, NONE, 9, 10},
            {0, 0, NONE, NONE, NONE}, {1, 0, NONE, 11, 11}};
        int[] boxes = {0, 2, 3, 4, 5, 6, 29};
        for (int i = 0; i < boxes.length; i++) {
            for (int what = 0; what < 5; what++) {
                due("case " + boxes[i] + " " + what, x.box(boxes[i], what), want[i][what]);
            }
        }
        x = withCodes(250);
        due("none in it: no least", x.box(0, 3), NONE);
        due("none in it: no greatest", x.box(0, 4), NONE);
        x.pack(0, 0);
        due("code 0 alone is the least", x.box(0, 3), 0);
        due("and the greatest", x.box(0, 4), 0);
        x.pack(199, 1);
        due("code 199 alone is the least", x.box(1, 3), 199);
        due("and the greatest", x.box(1, 4), 199);
        due("broken up", x.breakUp(0, 1), 1);
        due("no least", x.box(1, 3), NONE);
        x.breakUp(0, 0);
        packAll(x, 9, 199, 0, 100);
        due("the least, packed in any order", x.box(9, 3), 0);
        due("the greatest", x.box(9, 4), 199);
    }

    private static void boxBad() {
        Due.part("Promise 20, box: BAD");
        for (int what = 0; what < 5; what++) {
            int of = what;
            Behind.outside("case", 0, 29, Behind.BUSY, (x, v) -> x.box(v, of));
        }
        for (int box : new int[] {0, 6, 29}) {
            Behind.outside("what", 0, 4, Behind.BUSY, (x, v) -> x.box(box, v));
        }
    }

    private static void recallAsBits() {
        Due.part("Promise 21, recall: CASES (what = 0), PALLETS (1) as bits");
        CaseLine x = new CaseLine();
        x.lot(15);
        makeCodes(x, 40);
        x.rule(0, 1);
        for (int box = 0; box < 30; box++) {
            x.pack(box, box);
            due("cases 0 to " + box, x.recall(15, 0), (1 << box + 1) - 1);
        }
        for (int pallet = 0; pallet < 6; pallet++) {
            x.close(pallet);
            x.stack(pallet, pallet);
            due("pallets 0 to " + pallet, x.recall(15, 1), (1 << pallet + 1) - 1);
        }
        x.breakUp(1, 0);
        due("not the broken up one", x.recall(15, 1), 62);
        x.breakUp(0, 0);
        due("not the broken up one", x.recall(15, 0), (1 << 30) - 2);
        due("of another lot", x.recall(0, 0), 0);
        due("of another lot", x.recall(0, 1), 0);
    }

    private static void recallInNoCase() {
        Due.part("Promise 21, recall: units of the LOT that are in no CASE (2; how many)");
        CaseLine x = busy();
        due("lot 7: 12 to 15", x.recall(7, 2), 4);
        due("lot 3: none", x.recall(3, 2), 0);
        x.breakUp(0, 3);
        due("lot 3: 6, 7", x.recall(3, 2), 2);
        due("a lot that was never", x.recall(15, 2), 0);
        x = withCodes(250);
        due("200 have a code, and a lot with it", x.recall(0, 2), 200);
    }

    private static void recallBad() {
        Due.part("Promise 21, recall: BAD");
        for (int what = 0; what < 3; what++) {
            int of = what;
            Behind.outside("lot", 0, 15, Behind.BUSY, (x, v) -> x.recall(v, of));
        }
        Behind.outside("what", 0, 2, Behind.BUSY, (x, v) -> x.recall(3, v));
        Behind.outside("what", 0, 2, Behind.FRESH, (x, v) -> x.recall(0, v));
    }
}
