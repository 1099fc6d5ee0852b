/** Promises 1 to 11: a test for each sentence that names a boundary case. */
public final class EdgesOfTheLineTest {
    private static final int BAD = -1, NO = -2, FULL = -3, NONE = -4;
    private static final int FAULTY = 0, HALTED = 1, BLOCKED = 2, RUNS = 3, STARVED = 4;

    public static void main(String[] args) {
        newTwoMachines();
        newSupplyIsEmpty();
        newUnitTareTolerance();
        newLot();
        newWithoutAnything();
        lineAsAtFirst();
        lineTicksCountsFaultsAreNone();
        lineCodesCasesPalletsStay();
        lineBad();
        setPace();
        setR();
        setS();
        setGap();
        setTheLastHasNone();
        setMoreUnitsAreInIt();
        setBad();
        setOfSeveral();
        faultHowMany();
        faultBad();
        faultGoneBy();
        faultFull();
        faultOfSeveral();
        supplyOneToThousand();
        supplyFull();
        supplyOfSeveral();
        lotWhatItWas();
        lotBad();
        ticksOneToFiveHundred();
        ticksFull();
        ticksOfSeveral();
        confirmHowMany();
        confirmBad();
        aboutLastTick();
        aboutCounts();
        aboutInIt();
        aboutInTheGap();
        aboutNotConfirmed();
        aboutRan();
        aboutBad();
        causeOfEach();
        causeBad();
        bookOfEach();
        bookBad();
        Due.end();
    }

    private static void due(String call, long got, long want) {
        Due.due(call, got, want);
    }

    private static void bad(String call, Behind.State state, Behind.Call on) {
        Behind.refused(call, BAD, state, on);
    }

    private static CaseLine busy() {
        CaseLine x = new CaseLine();
        Behind.BUSY.make(x);
        return x;
    }

    /** The same on BUSY, of lines with two to six machines: the numbers next to each end. */
    private static void noSuchMachine(String call, Behind.CallOf on) {
        for (int m = 2; m <= 6; m++) {
            int machines = m;
            Behind.outside(call + " of " + m + " machines", 0, m - 1, x -> x.line(machines), on);
        }
        Behind.outside(call, 0, 2, Behind.BUSY, on);
    }

    private static void newTwoMachines() {
        Due.part("Promise 1, a new object: Two MACHINES");
        CaseLine x = new CaseLine();
        due("machine 0", x.about(0, 1), 0);
        due("machine 1", x.about(1, 1), 0);
        due("machine 2", x.about(2, 1), BAD);
        due("a gap behind the first", x.set(0, 3, 2), 2);
        due("none behind the second", x.set(1, 3, 2), BAD);
    }

    private static void newSupplyIsEmpty() {
        Due.part("Promise 1, a new object: THE SUPPLY is empty");
        CaseLine x = new CaseLine();
        due("book", x.book(1), 0);
        x.ticks(1);
        due("the first is starved", x.about(0, 0), STARVED);
        due("laid on the supply", x.cause(7), 1);
        due("the first unit", x.supply(1), 1);
    }

    private static void newUnitTareTolerance() {
        Due.part("Promise 1, a new object: UNIT 100, TARE 50, TOLERANCE 5");
        CaseLine x = new CaseLine();
        due("UNIT", x.rule(2, 100), 100);
        due("TARE", x.rule(3, 50), 50);
        due("TOLERANCE", x.rule(4, 5), 5);
        for (int weight : new int[] {444, 445, 450, 455, 456}) {
            x = new CaseLine();
            x.supply(5);
            x.ticks(7);
            x.pack(0, 0);
            x.pack(2, 0);
            x.pack(3, 0);
            due("weight " + weight, x.weigh(0, weight), weight < 445 || weight > 455 ? NO : 1);
        }
        x.scale(0, 101);
        x.scale(1, 94);
        x.scale(2, 95);
        due("above 100", x.scales(0), 1);
        due("below 95", x.scales(1), 1);
    }

    private static void newLot() {
        Due.part("Promise 1, a new object: LOT 0");
        CaseLine x = new CaseLine();
        x.supply(1);
        x.ticks(3);
        due("the first code's lot", x.code(0, 2), 0);
        due("lot", x.lot(0), 0);
    }

    private static void newWithoutAnything() {
        Due.part("Promise 1, a new object: what stands \"at first\", and nothing else");
        CaseLine x = new CaseLine();
        for (int what = 0; what < 8; what++) {
            due("book " + what, x.book(what), 0);
            due("cause " + what, x.cause(what), 0);
            due("about 0 " + what, x.about(0, what), what == 0 ? NONE : 0);
            due("about 1 " + what, x.about(1, what), what == 0 ? NONE : 0);
        }
        due("no code", x.code(0, 0), BAD);
        due("no layer", x.holds(), NO);
        due("no faults", x.fault(0, 9, 9), 1);
        due("SIZE", x.rule(0, 4), 4);
        due("HIGH", x.rule(1, 6), 6);
        due("CLEANING", x.rule(5, 60), 60);
        for (int box = 0; box < 30; box++) {
            due("an open case", x.box(box, 0) + x.box(box, 1), 0);
            due("on no pallet", x.box(box, 2), NONE);
            due("no least code", x.box(box, 3), NONE);
            due("no greatest code", x.box(box, 4), NONE);
        }
        for (int pallet = 0; pallet < 6; pallet++) {
            due("none on the pallet", x.seal(pallet), NO);
        }
        for (int what = 0; what < 3; what++) {
            due("scales " + what, x.scales(what), 0);
        }
    }

    private static void lineAsAtFirst() {
        Due.part("Promise 2, line: THE LINE anew, with M MACHINES as at first: M");
        for (int m = 2; m <= 6; m++) {
            CaseLine x = new CaseLine();
            x.line(6);
            x.supply(500);
            for (int machine = 0; machine < 6; machine++) {
                x.set(machine, 0, 2);
                x.set(machine, 1, 7);
                x.set(machine, 2, 5);
                x.set(machine, 3, 9);
            }
            x.ticks(60);
            due("line(" + m + ")", x.line(m), m);
            due("the supply is empty", x.book(1), 0);
            for (int machine = 0; machine < 6; machine++) {
                for (int what = 0; what < 8; what++) {
                    due("about " + machine + " " + what, x.about(machine, what), machine >= m ? BAD : what == 0 ? NONE : 0);
                }
            }
            // Those that are not there on the shorter line are as at first, too, when they come back.
            due("line(6)", x.line(6), 6);
            for (int machine = 0; machine < 6; machine++) {
                due("pace", x.set(machine, 0, 1), 1);
                due("r", x.set(machine, 1, 0), 0);
                due("s", x.set(machine, 2, 0), 0);
                due("gap", x.set(machine, 3, 2), machine == 5 ? BAD : 2);
                due("finished", x.about(machine, 1), 0);
                due("in it", x.about(machine, 4), 0);
            }
        }
        CaseLine x = new CaseLine();
        due("the same number", x.line(2), 2);
        x = busy();
        due("the same number", x.line(3), 3);
        due("none on the line", x.book(6), 0);
        // Nothing of the work on a unit is left: the first unit takes all ticks of its pace.
        for (int done = 1; done < 5; done++) {
            x = new CaseLine();
            x.set(0, 0, 5);
            x.supply(9);
            x.ticks(done);
            x.line(2);
            x.set(0, 0, 5);
            x.supply(9);
            x.ticks(4);
            due("four of five are done", x.about(0, 1), 0);
            x.ticks(1);
            due("five are", x.about(0, 1), 1);
        }
        // Nor of a reject: that of tick 0 is three ticks ago, and was of the line before.
        x = new CaseLine();
        x.set(0, 1, 1);
        x.supply(9);
        x.ticks(1);
        x.line(2);
        x.ticks(4);
        due("not halted", x.about(0, 0), STARVED);
    }

    private static void lineTicksCountsFaultsAreNone() {
        Due.part("Promise 2, line: TICKS, counts, FAULTS are none");
        CaseLine x = busy();
        x.line(3);
        for (int what = 0; what < 8; what++) {
            due("book " + what, x.book(what), 0);
            due("cause " + what, x.cause(what), 0);
        }
        for (int machine = 0; machine < 3; machine++) {
            due("no reject waits", x.confirm(machine), 0);
        }
        x.supply(100);
        for (int tick = 0; tick < 80; tick++) {
            x.ticks(1);
            due("machine 1 not faulty in " + tick, x.about(1, 0) == FAULTY ? 1 : 0, 0);
            due("machine 2 not faulty in " + tick, x.about(2, 0) == FAULTY ? 1 : 0, 0);
        }
        x.line(2);
        for (int n = 1; n <= 8; n++) {
            due("faults from one on", x.fault(0, 50, 60), n);
        }
        x.line(2);
        for (int i = 0; i < 20; i++) {
            x.ticks(500);
        }
        due("10000 ticks again", x.book(0), 10000);
        due("none more", x.ticks(1), FULL);
        x.line(2);
        due("but on a line anew", x.ticks(1), 1);
    }

    private static void lineCodesCasesPalletsStay() {
        Due.part("Promise 2, line: CODES, CASES, PALLETS stay");
        CaseLine x = busy();
        CaseLine y = busy();
        x.line(6);
        for (int code = 0; code < 30; code++) {
            for (int what = 0; what < 4; what++) {
                due("code " + code + " " + what, x.code(code, what), y.code(code, what));
            }
        }
        for (int box = 0; box < 30; box++) {
            for (int what = 0; what < 5; what++) {
                due("case " + box + " " + what, x.box(box, what), y.box(box, what));
            }
        }
        due("a pallet closed", x.seal(1), NO);
        due("a pallet open", x.seal(0), 2);
        due("the next code", x.code(16, 0), BAD);
        x.supply(1);
        x.ticks(11);
        due("one good", x.book(3), 1);
        due("the codes go on", x.code(16, 0), NONE);
    }

    private static void lineBad() {
        Due.part("Promise 2, line: BAD");
        Behind.outside("line", 2, 6, Behind.BUSY, (x, v) -> x.line(v));
        Behind.outside("line", 2, 6, Behind.FRESH, (x, v) -> x.line(v));
    }

    private static void setPace() {
        Due.part("Promise 3, set: 0 PACE (1 to 5): what it was");
        for (int machine = 0; machine < 3; machine++) {
            CaseLine x = new CaseLine();
            x.line(3);
            due("the greatest", x.set(machine, 0, 5), 1);
            due("the least", x.set(machine, 0, 1), 5);
            due("it was", x.set(machine, 0, 2), 1);
            int of = machine;
            Behind.outside("pace of " + machine, 1, 5, Behind.BUSY, (y, v) -> y.set(of, 0, v));
        }
    }

    private static void setR() {
        Due.part("Promise 3, set: 1 r (0 to 99): what it was");
        for (int machine = 0; machine < 3; machine++) {
            CaseLine x = new CaseLine();
            x.line(3);
            due("the greatest", x.set(machine, 1, 99), 0);
            due("the least", x.set(machine, 1, 0), 99);
            due("it was", x.set(machine, 1, 1), 0);
            int of = machine;
            Behind.outside("r of " + machine, 0, 99, Behind.BUSY, (y, v) -> y.set(of, 1, v));
        }
    }

    private static void setS() {
        Due.part("Promise 3, set: 2 s (0 to 99): what it was");
        for (int machine = 0; machine < 3; machine++) {
            CaseLine x = new CaseLine();
            x.line(3);
            due("the greatest", x.set(machine, 2, 99), 0);
            due("the least", x.set(machine, 2, 0), 99);
            due("it was", x.set(machine, 2, 1), 0);
            int of = machine;
            Behind.outside("s of " + machine, 0, 99, Behind.BUSY, (y, v) -> y.set(of, 2, v));
        }
    }

    private static void setGap() {
        Due.part("Promise 3, set: 3 what the GAP behind it holds (1 to 20): what it was");
        for (int machine = 0; machine < 2; machine++) {
            CaseLine x = new CaseLine();
            x.line(3);
            due("the greatest", x.set(machine, 3, 20), 2);
            due("the least", x.set(machine, 3, 1), 20);
            due("it was", x.set(machine, 3, 3), 1);
            int of = machine;
            Behind.outside("gap of " + machine, 1, 20, Behind.BUSY, (y, v) -> y.set(of, 3, v));
        }
    }

    private static void setTheLastHasNone() {
        Due.part("Promise 3, set: what the GAP behind it holds (the last has none: BAD)");
        for (int m = 2; m <= 6; m++) {
            int machines = m;
            for (int v : new int[] {0, 1, 2, 20, 21}) {
                bad("gap of the last of " + m, x -> x.line(machines), x -> x.set(machines - 1, 3, v));
            }
            CaseLine x = new CaseLine();
            x.line(m);
            due("the last but one has one", x.set(m - 2, 3, 20), 2);
            due("the last has a pace, r, s", x.set(m - 1, 0, 2) + x.set(m - 1, 1, 2) + x.set(m - 1, 2, 2), 1);
        }
        bad("gap of the last", Behind.BUSY, x -> x.set(2, 3, 2));
    }

    private static final Behind.State FULL_GAP = x -> {
        x.set(0, 3, 20);
        x.fault(1, 0, 30);
        x.supply(40);
        x.ticks(30);
    };

    private static final Behind.State THREE_IN_GAP = x -> {
        x.set(0, 3, 5);
        x.fault(1, 0, 30);
        x.supply(3);
        x.ticks(9);
    };

    private static void setMoreUnitsAreInIt() {
        Due.part("Promise 3, set: NO: more units are in it");
        Behind.refused("three are in it", NO, THREE_IN_GAP, x -> x.set(0, 3, 2));
        Behind.refused("three are in it", NO, THREE_IN_GAP, x -> x.set(0, 3, 1));
        Behind.refused("twenty are in it", NO, FULL_GAP, x -> x.set(0, 3, 19));
        Behind.refused("twenty are in it", NO, FULL_GAP, x -> x.set(0, 3, 1));
        CaseLine x = new CaseLine();
        THREE_IN_GAP.make(x);
        due("three", x.about(0, 5), 3);
        due("just as many", x.set(0, 3, 3), 5);
        due("they stay", x.about(0, 5), 3);
        x = new CaseLine();
        FULL_GAP.make(x);
        due("twenty", x.about(0, 5), 20);
        due("just as many", x.set(0, 3, 20), 20);
        x.ticks(2);
        due("one is taken, one given on", x.about(0, 5), 20);
        due("there was room", x.about(0, 0), RUNS);
        // The one that the machine holds is not in the gap yet.
        x = new CaseLine();
        x.supply(1);
        x.ticks(1);
        due("one held, none in the gap", x.set(0, 3, 1), 2);
    }

    private static void setBad() {
        Due.part("Promise 3, set: BAD (no such MACHINE; what not 0 to 3)");
        for (int what = 0; what < 4; what++) {
            int of = what;
            noSuchMachine("set " + what, (x, v) -> x.set(v, of, 1));
        }
        for (int machine = 0; machine < 3; machine++) {
            int of = machine;
            Behind.outside("what", 0, 3, Behind.BUSY, (x, v) -> x.set(of, v, 1));
        }
    }

    private static void setOfSeveral() {
        Due.part("Promise 3, set: Of several the first (BAD, NO); nothing changes then");
        bad("0 is BAD, and more are in it", THREE_IN_GAP, x -> x.set(0, 3, 0));
        bad("21", THREE_IN_GAP, x -> x.set(0, 3, 21));
        bad("LOW", THREE_IN_GAP, x -> x.set(0, 3, Behind.LOW));
        bad("no such machine, no such what, no such number", Behind.BUSY, x -> x.set(3, 4, -1));
    }

    private static void faultHowMany() {
        Due.part("Promise 4, fault: A FAULT: how many");
        CaseLine x = new CaseLine();
        x.line(3);
        for (int n = 1; n <= 8; n++) {
            due("fault " + n, x.fault(n % 3, 100, 100 + n), n);
        }
        x = new CaseLine();
        due("the same twice", x.fault(0, 5, 5) + 10 * x.fault(0, 5, 5), 21);
        // Those gone by are FAULTS of the line as well, until it is made anew.
        x.ticks(50);
        due("a third", x.fault(1, 50, 50), 3);
    }

    private static void faultBad() {
        Due.part("Promise 4, fault: BAD");
        noSuchMachine("fault", (x, v) -> x.fault(v, 100, 200));
        Behind.outside("a", 0, 9999, Behind.BUSY, (x, v) -> x.fault(0, v, 9999));
        Behind.outside("b", 0, 9999, Behind.BUSY, (x, v) -> x.fault(0, 100, v));
        Behind.outside("a and b", 0, 9999, Behind.BUSY, (x, v) -> x.fault(2, v, v));
        bad("from a to b: b below a", Behind.BUSY, x -> x.fault(0, 101, 100));
        bad("b below a", Behind.BUSY, x -> x.fault(0, 9999, 100));
        CaseLine x = busy();
        due("the greatest", x.fault(0, 9999, 9999), 3);
        due("b is a", x.fault(0, 100, 100), 4);
        x = new CaseLine();
        due("the least", x.fault(0, 0, 0), 1);
        due("from the least to the greatest", x.fault(1, 0, 9999), 2);
    }

    private static final Behind.State ALL_TICKS = x -> {
        for (int i = 0; i < 20; i++) {
            x.ticks(500);
        }
    };

    private static void faultGoneBy() {
        Due.part("Promise 4, fault: NO: a is gone by");
        // 58 ticks are done on BUSY: 0 to 57 are gone by, 58 comes next.
        for (int a : new int[] {0, 1, 56, 57}) {
            Behind.refused("a is " + a, NO, Behind.BUSY, x -> x.fault(0, a, a));
            Behind.refused("a is " + a + ", b is not gone by", NO, Behind.BUSY, x -> x.fault(0, a, 9999));
        }
        CaseLine x = busy();
        due("the tick that comes next", x.fault(0, 58, 58), 3);
        x.ticks(1);
        due("it is faulty then", x.about(0, 0), FAULTY);
        x = new CaseLine();
        due("none is gone by at first", x.fault(0, 0, 0), 1);
        x.ticks(1);
        Behind.refused("tick 0 is", NO, y -> y.ticks(1), y -> y.fault(0, 0, 0));
        Behind.refused("all are gone by", NO, ALL_TICKS, y -> y.fault(0, 9999, 9999));
        x.line(2);
        due("none on a line anew", x.fault(0, 0, 0), 1);
    }

    private static final Behind.State EIGHT_FAULTS = x -> {
        x.ticks(5);
        x.supply(50);
        for (int n = 0; n < 8; n++) {
            x.fault(n % 2, 7 + 2 * n, 7 + 2 * n);
        }
    };

    private static final Behind.State EIGHT_GONE_BY = x -> {
        EIGHT_FAULTS.make(x);
        x.ticks(100);
    };

    private static void faultFull() {
        Due.part("Promise 4, fault: FULL: 8");
        Behind.refused("a ninth", FULL, EIGHT_FAULTS, x -> x.fault(0, 8, 8));
        Behind.refused("a ninth of the other", FULL, EIGHT_FAULTS, x -> x.fault(1, 9999, 9999));
        Behind.refused("when they are gone by", FULL, EIGHT_GONE_BY, x -> x.fault(1, 9999, 9999));
        CaseLine x = new CaseLine();
        for (int n = 1; n <= 7; n++) {
            x.fault(0, 9, 9);
        }
        due("the eighth", x.fault(0, 9, 9), 8);
        due("the ninth", x.fault(0, 9, 9), FULL);
        x.line(2);
        due("anew", x.fault(0, 9, 9), 1);
    }

    private static void faultOfSeveral() {
        Due.part("Promise 4, fault: Of several the first (BAD, NO, FULL); nothing changes then");
        bad("a gone by, b below a", Behind.BUSY, x -> x.fault(0, 5, 4));
        bad("a gone by, no such machine", Behind.BUSY, x -> x.fault(3, 5, 6));
        bad("a gone by, b beyond", Behind.BUSY, x -> x.fault(0, 5, 10000));
        bad("eight, and no such machine", EIGHT_FAULTS, x -> x.fault(2, 50, 60));
        bad("eight, and b below a", EIGHT_FAULTS, x -> x.fault(0, 50, 49));
        Behind.refused("eight, and a gone by", NO, EIGHT_FAULTS, x -> x.fault(0, 4, 60));
        bad("all of it", EIGHT_FAULTS, x -> x.fault(0, 4, 3));
    }

    private static void supplyOneToThousand() {
        Due.part("Promise 5, supply: n units (1 to 1000) more in THE SUPPLY: how many are there. BAD");
        CaseLine x = new CaseLine();
        due("the least", x.supply(1), 1);
        due("the greatest", x.supply(1000), 1001);
        due("more", x.supply(2), 1003);
        x.ticks(2);
        due("two are taken", x.supply(1), 1002);
        Behind.outside("supply", 1, 1000, Behind.BUSY, (y, v) -> y.supply(v));
        Behind.outside("supply", 1, 1000, Behind.FRESH, (y, v) -> y.supply(v));
    }

    private static final Behind.State NEARLY_ALL_SUPPLY = x -> {
        for (int i = 0; i < 99; i++) {
            x.supply(1000);
        }
        x.supply(999);
    };

    private static final Behind.State ALL_SUPPLY = x -> {
        NEARLY_ALL_SUPPLY.make(x);
        x.supply(1);
    };

    private static void supplyFull() {
        Due.part("Promise 5, supply: FULL: above 100000");
        CaseLine x = new CaseLine();
        NEARLY_ALL_SUPPLY.make(x);
        due("99999", x.book(1), 99999);
        due("just 100000", x.supply(1), 100000);
        due("one more", x.supply(1), FULL);
        x.ticks(1);
        due("one is taken", x.supply(1), 100000);
        Behind.refused("one above", FULL, NEARLY_ALL_SUPPLY, y -> y.supply(2));
        Behind.refused("far above", FULL, NEARLY_ALL_SUPPLY, y -> y.supply(1000));
        Behind.refused("one above", FULL, ALL_SUPPLY, y -> y.supply(1));
        Behind.refused("a thousand above", FULL, ALL_SUPPLY, y -> y.supply(1000));
        x.line(2);
        due("anew", x.supply(1000), 1000);
    }

    private static void supplyOfSeveral() {
        Due.part("Promise 5, supply: Of several the first (BAD, FULL); nothing changes then");
        Behind.outside("supply", 1, 1000, ALL_SUPPLY, (x, v) -> x.supply(v));
    }

    private static void lotWhatItWas() {
        Due.part("Promise 6, lot: THE LOT (0 to 15): what it was");
        CaseLine x = new CaseLine();
        due("the greatest", x.lot(15), 0);
        due("the same", x.lot(15), 15);
        due("the least", x.lot(0), 15);
        due("another", x.lot(1), 0);
        x.line(3);
        due("a line anew leaves it", x.lot(2), 1);
    }

    private static void lotBad() {
        Due.part("Promise 6, lot: BAD");
        Behind.outside("lot", 0, 15, Behind.BUSY, (x, v) -> x.lot(v));
    }

    private static void ticksOneToFiveHundred() {
        Due.part("Promise 7, ticks: n TICKS (1 to 500): TICKS. BAD");
        CaseLine x = new CaseLine();
        due("the least", x.ticks(1), 1);
        due("the greatest", x.ticks(500), 501);
        due("book", x.book(0), 501);
        Behind.outside("ticks", 1, 500, Behind.BUSY, (y, v) -> y.ticks(v));
        Behind.outside("ticks", 1, 500, Behind.FRESH, (y, v) -> y.ticks(v));
        // All at once or one by one, the line comes to the same.
        x = busy();
        CaseLine y = busy();
        x.ticks(100);
        for (int i = 0; i < 100; i++) {
            y.ticks(1);
        }
        for (int what = 0; what < 8; what++) {
            due("book " + what, x.book(what), y.book(what));
            due("cause " + what, x.cause(what), y.cause(what));
        }
    }

    private static final Behind.State NEARLY_ALL_TICKS = x -> {
        x.supply(1000);
        x.set(0, 1, 50);
        for (int i = 0; i < 19; i++) {
            x.ticks(500);
        }
        x.confirm(0);
        x.ticks(499);
    };

    private static void ticksFull() {
        Due.part("Promise 7, ticks: FULL: beyond 10000");
        CaseLine x = new CaseLine();
        NEARLY_ALL_TICKS.make(x);
        due("just 10000", x.ticks(1), 10000);
        due("one more", x.ticks(1), FULL);
        x = new CaseLine();
        ALL_TICKS.make(x);
        due("twenty times 500", x.book(0), 10000);
        Behind.refused("one beyond", FULL, NEARLY_ALL_TICKS, y -> y.ticks(2));
        Behind.refused("far beyond", FULL, NEARLY_ALL_TICKS, y -> y.ticks(500));
        Behind.refused("one beyond", FULL, ALL_TICKS, y -> y.ticks(1));
        Behind.refused("500 beyond", FULL, ALL_TICKS, y -> y.ticks(500));
    }

    private static void ticksOfSeveral() {
        Due.part("Promise 7, ticks: Of several the first (BAD, FULL); nothing changes then");
        Behind.outside("ticks", 1, 500, ALL_TICKS, (x, v) -> x.ticks(v));
    }

    private static void confirmHowMany() {
        Due.part("Promise 8, confirm: REJECTS of a MACHINE are CONFIRMED: how many were not");
        CaseLine x = new CaseLine();
        due("none at first", x.confirm(0), 0);
        due("none at first", x.confirm(1), 0);
        x.set(0, 1, 1);
        x.supply(9);
        x.ticks(1);
        due("one", x.confirm(0), 1);
        due("none is left", x.confirm(0), 0);
        x.ticks(2);
        due("two", x.confirm(0), 2);
        x.ticks(9);
        due("of the other", x.confirm(1), 0);
        due("three, it halted", x.confirm(0), 3);
        due("rejected all the same", x.about(0, 2), 6);
    }

    private static void confirmBad() {
        Due.part("Promise 8, confirm: BAD");
        noSuchMachine("confirm", (x, v) -> x.confirm(v));
    }

    private static void aboutLastTick() {
        Due.part("Promise 9, about: 0 what it was in the last TICK (0 FAULTY, 1 HALTED, 2 BLOCKED, 3 RUNS, 4 STARVED; NONE)");
        CaseLine x = new CaseLine();
        due("no tick yet", x.about(0, 0), NONE);
        x.supply(500);
        due("no tick yet", x.about(1, 0), NONE);
        x.ticks(1);
        due("RUNS", x.about(0, 0), RUNS);
        due("STARVED", x.about(1, 0), STARVED);
        x.fault(1, 1, 10);
        x.ticks(10);
        due("FAULTY", x.about(1, 0), FAULTY);
        due("BLOCKED", x.about(0, 0), BLOCKED);
        x.set(1, 1, 1);
        x.ticks(9);
        due("HALTED", x.about(1, 0), HALTED);
        x.confirm(1);
        due("in the last tick, not now", x.about(1, 0), HALTED);
        x.line(2);
        due("none on a line anew", x.about(1, 0), NONE);
    }

    private static void aboutCounts() {
        Due.part("Promise 9, about: 1 finished units, 2 REJECTED, 3 SAMPLED");
        CaseLine x = new CaseLine();
        x.set(0, 1, 4);
        x.set(0, 2, 3);
        x.supply(12);
        for (int i = 0; i < 12; i++) {
            x.ticks(1);
            x.confirm(0);
        }
        due("finished", x.about(0, 1), 12);
        due("rejected: 4, 8, 12", x.about(0, 2), 3);
        due("sampled: 3, 6, 9", x.about(0, 3), 3);
        x.ticks(4);
        due("finished by the other", x.about(1, 1), 6);
        due("rejected by the other", x.about(1, 2), 0);
        due("sampled by the other", x.about(1, 3), 0);
    }

    private static void aboutInIt() {
        Due.part("Promise 9, about: 4 in it (0, 1)");
        CaseLine x = new CaseLine();
        due("none at first", x.about(0, 4), 0);
        x.set(0, 0, 2);
        x.supply(2);
        x.ticks(1);
        due("one at work", x.about(0, 4), 1);
        x.ticks(1);
        due("one held", x.about(0, 4), 1);
        x.ticks(1);
        due("one given on, one at work", x.about(0, 4), 1);
        x.ticks(2);
        due("none", x.about(0, 4), 0);
        due("the last has one good: none in it", x.about(1, 4), 0);
    }

    private static void aboutInTheGap() {
        Due.part("Promise 9, about: 5 in the GAP behind it");
        CaseLine x = new CaseLine();
        due("none at first", x.about(0, 5), 0);
        x.supply(50);
        x.fault(1, 0, 9);
        x.ticks(2);
        due("one", x.about(0, 5), 1);
        x.ticks(8);
        due("two, as it holds", x.about(0, 5), 2);
        for (int m = 2; m <= 6; m++) {
            x.line(m);
            x.supply(50);
            x.ticks(30);
            due("the last has none behind it: none is in it", x.about(m - 1, 5), 0);
        }
    }

    private static void aboutNotConfirmed() {
        Due.part("Promise 9, about: 6 REJECTS that are not CONFIRMED");
        CaseLine x = new CaseLine();
        due("none at first", x.about(0, 6), 0);
        x.set(0, 1, 1);
        x.supply(50);
        int[] open = {1, 2, 3, 3, 3};
        for (int want : open) {
            x.ticks(1);
            due("by tick " + (x.book(0) - 1), x.about(0, 6), want);
        }
        x.confirm(0);
        due("none by the word", x.about(0, 6), 0);
        x.ticks(1);
        due("one", x.about(0, 6), 1);
        due("none of the other", x.about(1, 6), 0);
    }

    private static void aboutRan() {
        Due.part("Promise 9, about: 7 TICKS in which it RAN");
        CaseLine x = new CaseLine();
        due("none at first", x.about(0, 7), 0);
        x.set(0, 0, 5);
        x.supply(2);
        x.fault(0, 3, 4);
        x.ticks(3);
        due("each tick of its pace", x.about(0, 7), 3);
        x.ticks(2);
        due("not the faulty ones", x.about(0, 7), 3);
        x.ticks(20);
        due("nor those when it is starved", x.about(0, 7), 10);
        due("the other", x.about(1, 7), 2);
    }

    private static void aboutBad() {
        Due.part("Promise 9, about: BAD");
        for (int what = 0; what < 8; what++) {
            int of = what;
            noSuchMachine("about " + what, (x, v) -> x.about(v, of));
        }
        for (int machine = 0; machine < 3; machine++) {
            int of = machine;
            Behind.outside("what", 0, 7, Behind.BUSY, (x, v) -> x.about(of, v));
        }
    }

    private static void causeOfEach() {
        Due.part("Promise 10, cause: TICKS laid on a CAUSE: MACHINE 0 to 5, 6 THE PACE, 7 THE SUPPLY");
        CaseLine x = new CaseLine();
        for (int what = 0; what < 8; what++) {
            due("of two machines, cause " + what, x.cause(what), 0);
        }
        x.line(6);
        x.supply(100);
        for (int machine = 0; machine < 6; machine++) {
            x.fault(machine, 7 * machine, 7 * machine + machine);
        }
        x.ticks(50);
        int sum = 0;
        for (int what = 0; what < 8; what++) {
            sum += x.cause(what);
        }
        due("together", sum, x.book(7));
        due("the first, in tick 0", x.cause(0), 1);
        due("the last, in the ticks 35 to 40", x.cause(5), 6);
        due("the supply", x.cause(7), 0);
        x.line(6);
        x.ticks(4);
        due("the supply", x.cause(7), 4);
        due("anew", x.cause(5), 0);
    }

    private static void causeBad() {
        Due.part("Promise 10, cause: BAD");
        Behind.outside("cause", 0, 7, Behind.BUSY, (x, v) -> x.cause(v));
        Behind.outside("cause", 0, 7, Behind.FRESH, (x, v) -> x.cause(v));
    }

    private static void bookOfEach() {
        Due.part("Promise 11, book: 0 TICKS, 1 THE SUPPLY, 2 taken from it, 3 GOOD, 4 REJECTED, 5 SAMPLED, 6 on the line, 7 TICKS in which the last MACHINE did not RUN");
        CaseLine x = new CaseLine();
        x.line(3);
        x.set(0, 1, 5);
        x.set(1, 2, 2);
        x.set(2, 0, 2);
        x.supply(8);
        x.ticks(6);
        // By tick 5 the first has finished 1 to 4 and rejected 5 (tick 4), 6 is held. The second has
        // finished 1 (tick 2) and, a sample, 2 (tick 3), 3 (tick 4) and, a sample, 4 (tick 5). The
        // last has taken 1 in tick 4 and is done with it in tick 5; 3 was given on in tick 5.
        int[] due = {6, 2, 6, 1, 1, 2, 2, 4};
        for (int what = 0; what < 8; what++) {
            due("book " + what, x.book(what), due[what]);
        }
        x = new CaseLine();
        x.ticks(7);
        due("the last was starved", x.book(7), 7);
    }

    private static void bookBad() {
        Due.part("Promise 11, book: BAD");
        Behind.outside("book", 0, 7, Behind.BUSY, (x, v) -> x.book(v));
        Behind.outside("book", 0, 7, Behind.FRESH, (x, v) -> x.book(v));
    }
}
