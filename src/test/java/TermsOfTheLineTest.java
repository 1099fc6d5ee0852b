/** "Terms", part 1: a test for each sentence that names a boundary case of the line. */
public final class TermsOfTheLineTest {
    private static final int BAD = -1, NO = -2, FULL = -3, NONE = -4;
    private static final int FAULTY = 0, HALTED = 1, BLOCKED = 2, RUNS = 3, STARVED = 4;

    public static void main(String[] args) {
        machinesTwoToSix();
        gapBehindEachButTheLast();
        gapHoldsSoManyUnits();
        paceOneToFive();
        rejectsEachRth();
        samplesEachSth();
        faultsBothWith();
        faultsFromTheFirstTickToTheLast();
        eightFaultsOfAllMachines();
        fromTheLastToTheFirst();
        faultyComesFirst();
        haltedThreeTicksAgoOrMore();
        haltedUntilConfirmed();
        haltedBeforeBlocked();
        givenOnIfThereIsRoom();
        goesOnAsWithout();
        blockedIfThereIsNoRoom();
        oneTickOfItsPaceMore();
        takesOneFromAhead();
        starved();
        finishedAndCounted();
        rejectedBeforeSampled();
        sampledIsOut();
        goodAtTheLastMachine();
        heldUntilTheNextTick();
        confirmedAreAll();
        codesAsTheyCome();
        twoHundredHaveCodes();
        theLotThatIsThen();
        causeThatMachine();
        causeAheadOfTheStarved();
        causeThePace();
        causeTheSupply();
        noCauseWhenTheLastRuns();
        Due.end();
    }

    private static void due(String call, long got, long want) {
        Due.due(call, got, want);
    }

    /** Ticks one by one, and what a machine was in each. */
    private static void states(CaseLine x, int machine, int... want) {
        for (int i = 0; i < want.length; i++) {
            x.ticks(1);
            due("machine " + machine + " in tick " + (x.book(0) - 1), x.about(machine, 0), want[i]);
        }
    }

    private static CaseLine lineWith(int machines, int supply) {
        CaseLine x = new CaseLine();
        x.line(machines);
        x.supply(supply);
        return x;
    }

    private static void machinesTwoToSix() {
        Due.part("Terms 1: MACHINES 0 .. M - 1 (2 to 6; 2 at first)");
        CaseLine x = new CaseLine();
        due("at first the second is there", x.about(1, 0), NONE);
        due("at first there is no third", x.about(2, 0), BAD);
        for (int m = 2; m <= 6; m++) {
            due("line(" + m + ")", x.line(m), m);
            due("machine 0", x.about(0, 4), 0);
            due("machine M - 1", x.about(m - 1, 4), 0);
            due("machine M", x.about(m, 4), BAD);
            due("machine -1", x.about(-1, 4), BAD);
        }
        Behind.outside("line", 2, 6, Behind.BUSY, (y, v) -> y.line(v));
    }

    private static void gapBehindEachButTheLast() {
        Due.part("Terms 1: a GAP behind each but the last");
        for (int m = 2; m <= 6; m++) {
            CaseLine x = new CaseLine();
            x.line(m);
            for (int machine = 0; machine < m; machine++) {
                due("a gap behind " + machine + " of " + m, x.set(machine, 3, 2), machine < m - 1 ? 2 : BAD);
            }
        }
    }

    private static void gapHoldsSoManyUnits() {
        Due.part("Terms 1: a GAP holds so many units (1 to 20; 2 at first)");
        for (int size : new int[] {1, 2, 3, 19, 20}) {
            CaseLine x = lineWith(2, 50);
            if (size != 2) {
                due("2 at first", x.set(0, 3, size), 2);
            }
            x.fault(1, 0, 99);
            x.ticks(size + 1);
            due("units in a gap of " + size, x.about(0, 5), size);
            due("runs yet", x.about(0, 0), RUNS);
            x.ticks(1);
            due("not one more in a gap of " + size, x.about(0, 5), size);
            due("blocked", x.about(0, 0), BLOCKED);
        }
        Behind.outside("set the gap", 1, 20, Behind.BUSY, (y, v) -> y.set(1, 3, v));
    }

    private static void paceOneToFive() {
        Due.part("Terms 1: a PACE (1 to 5 TICKS a unit; 1 at first)");
        for (int pace = 1; pace <= 5; pace++) {
            CaseLine x = lineWith(2, 9);
            if (pace != 1) {
                due("1 at first", x.set(0, 0, pace), 1);
            }
            for (int tick = 1; tick <= 15; tick++) {
                x.ticks(1);
                due("finished in " + tick + " ticks by pace " + pace, x.about(0, 1), tick / pace > 9 ? 9 : tick / pace);
            }
        }
        Behind.outside("set the pace", 1, 5, Behind.BUSY, (y, v) -> y.set(1, 0, v));
    }

    private static void rejectsEachRth() {
        Due.part("Terms 1: REJECTS each r-th unit (0 to 99; 0, at first: none)");
        CaseLine x = lineWith(2, 500);
        x.ticks(250);
        due("none at first", x.about(0, 2), 0);
        due("none of the last", x.about(1, 2), 0);
        for (int r : new int[] {1, 2, 98, 99}) {
            x = lineWith(2, 500);
            x.set(0, 1, r);
            for (int number = 1; number <= 200; number++) {
                x.ticks(1);
                x.confirm(0);
            }
            due("finished", x.about(0, 1), 200);
            due("rejected, r is " + r, x.about(0, 2), 200 / r);
        }
        x = lineWith(2, 500);
        x.set(0, 1, 99);
        x.ticks(98);
        due("98 are finished, none rejected", x.about(0, 2), 0);
        x.ticks(1);
        due("the 99th is", x.about(0, 2), 1);
        x.set(0, 1, 0);
        x.confirm(0);
        x.ticks(200);
        due("none any more by 0", x.about(0, 2), 1);
        Behind.outside("set r", 0, 99, Behind.BUSY, (y, v) -> y.set(1, 1, v));
    }

    private static void samplesEachSth() {
        Due.part("Terms 1: SAMPLES each s-th (0 to 99; 0, at first: none)");
        CaseLine x = lineWith(2, 500);
        x.ticks(250);
        due("none at first", x.about(0, 3), 0);
        due("none of the last", x.about(1, 3), 0);
        for (int s : new int[] {1, 2, 98, 99}) {
            x = lineWith(2, 500);
            x.set(0, 2, s);
            x.ticks(200);
            due("finished", x.about(0, 1), 200);
            due("sampled, s is " + s, x.about(0, 3), 200 / s);
        }
        x = lineWith(2, 500);
        x.set(0, 2, 99);
        x.ticks(98);
        due("98 are finished, none a sample", x.about(0, 3), 0);
        x.ticks(1);
        due("the 99th is", x.about(0, 3), 1);
        x.set(0, 2, 0);
        x.ticks(200);
        due("none any more by 0", x.about(0, 3), 1);
        Behind.outside("set s", 0, 99, Behind.BUSY, (y, v) -> y.set(1, 2, v));
    }

    private static void faultsBothWith() {
        Due.part("Terms 1: FAULTS: spans of TICKS from a to b (both with)");
        CaseLine x = lineWith(2, 50);
        x.fault(0, 2, 4);
        states(x, 0, RUNS, RUNS, FAULTY, FAULTY, FAULTY, RUNS, RUNS);
        x = lineWith(2, 50);
        due("of one tick", x.fault(0, 3, 3), 1);
        states(x, 0, RUNS, RUNS, RUNS, FAULTY, RUNS);
        x = lineWith(2, 50);
        due("two that share a tick", x.fault(0, 1, 2) + x.fault(0, 2, 3), 3);
        states(x, 0, RUNS, FAULTY, FAULTY, FAULTY, RUNS);
        x = lineWith(3, 50);
        x.fault(1, 0, 1);
        states(x, 0, RUNS, RUNS, RUNS);
        due("the machine of the fault alone", x.about(2, 7), 0);
    }

    private static void faultsFromTheFirstTickToTheLast() {
        Due.part("Terms 1: FAULTS: spans of TICKS (0 to 9999)");
        CaseLine x = lineWith(2, 50);
        due("the first tick", x.fault(0, 0, 0), 1);
        states(x, 0, FAULTY, RUNS);
        x = lineWith(2, 50);
        due("the last tick", x.fault(0, 9999, 9999), 1);
        for (int i = 0; i < 19; i++) {
            x.ticks(500);
        }
        x.ticks(499);
        due("not in tick 9998", x.about(0, 0), STARVED);
        states(x, 0, FAULTY);
        due("that was the last", x.book(0), 10000);
        x = lineWith(2, 50);
        due("all ticks", x.fault(1, 0, 9999), 1);
        for (int i = 0; i < 20; i++) {
            x.ticks(500);
        }
        due("never ran", x.about(1, 7), 0);
        due("laid on it", x.cause(1), 10000);
        Behind.outside("fault from and to", 0, 9999, Behind.FRESH, (y, v) -> y.fault(0, v, v));
        Behind.outside("fault from", 0, 9999, Behind.FRESH, (y, v) -> y.fault(0, v, 9999));
        Behind.outside("fault to", 0, 9999, Behind.FRESH, (y, v) -> y.fault(0, 0, v));
    }

    private static void eightFaultsOfAllMachines() {
        Due.part("Terms 1: FAULTS: 8 of all MACHINES");
        CaseLine x = lineWith(6, 50);
        for (int n = 1; n <= 8; n++) {
            due("fault " + n, x.fault(n % 6, 2 * n, 2 * n), n);
        }
        for (int machine = 0; machine < 6; machine++) {
            due("a ninth of machine " + machine, x.fault(machine, 100, 200), FULL);
        }
        for (int n = 1; n <= 8; n++) {
            x.ticks(x.book(0) == 0 ? 3 : 2);
            due("the fault of tick " + 2 * n, x.about(n % 6, 0), FAULTY);
        }
        x.ticks(100);
        due("the ninth is none", x.about(0, 0), STARVED);
    }

    private static void fromTheLastToTheFirst() {
        Due.part("Terms 1: A TICK: MACHINES from the last to the first");
        CaseLine x = lineWith(3, 50);
        x.set(0, 3, 1);
        x.set(1, 3, 1);
        x.ticks(4);
        // What is taken from a gap of one makes room in the same tick, all along the line.
        for (int tick = 4; tick < 12; tick++) {
            x.ticks(1);
            for (int machine = 0; machine < 3; machine++) {
                due("machine " + machine + " in tick " + tick, x.about(machine, 0), RUNS);
            }
        }
        x = lineWith(2, 50);
        x.ticks(2);
        due("what is given on is taken in the next tick", x.about(1, 0), STARVED);
        due("it is in the gap", x.about(0, 5), 1);
    }

    private static void faultyComesFirst() {
        Due.part("Terms 1: FAULTY, if a FAULT of it holds this TICK; else HALTED ..");
        CaseLine x = lineWith(2, 50);
        x.set(0, 1, 1);
        x.fault(0, 3, 4);
        states(x, 0, RUNS, RUNS, RUNS, FAULTY, FAULTY, HALTED);
        x = lineWith(2, 50);
        x.set(0, 3, 1);
        x.fault(1, 0, 20);
        x.fault(0, 4, 5);
        states(x, 0, RUNS, RUNS, BLOCKED, BLOCKED, FAULTY, FAULTY, BLOCKED);
        x = lineWith(2, 1);
        x.fault(0, 2, 2);
        states(x, 0, RUNS, STARVED, FAULTY, STARVED);
    }

    private static void haltedThreeTicksAgoOrMore() {
        Due.part("Terms 1: HALTED, if a REJECT of it was made 3 TICKS ago or more");
        CaseLine x = lineWith(2, 1);
        x.set(0, 1, 1);
        states(x, 0, RUNS, STARVED, STARVED, HALTED, HALTED, HALTED);
        x.ticks(500);
        due("and more", x.about(0, 0), HALTED);
        x = lineWith(2, 50);
        x.set(0, 1, 2);
        states(x, 0, RUNS, RUNS, RUNS, RUNS, HALTED, HALTED);
        x = lineWith(2, 50);
        x.set(1, 1, 1);
        // Of the last machine, too: it rejects in the ticks 2, 3, 4.
        states(x, 1, STARVED, STARVED, RUNS, RUNS, RUNS, HALTED);
    }

    private static void haltedUntilConfirmed() {
        Due.part("Terms 1: HALTED .. and is not CONFIRMED");
        CaseLine x = lineWith(2, 50);
        x.set(0, 1, 1);
        x.ticks(1);
        due("just made", x.confirm(0), 1);
        // Rejects of the ticks 1, 2, 3: the first of them counts now.
        states(x, 0, RUNS, RUNS, RUNS, HALTED);
        due("three", x.confirm(0), 3);
        states(x, 0, RUNS);
        x.ticks(1);
        due("before it halts", x.confirm(0), 2);
        states(x, 0, RUNS, RUNS, RUNS, HALTED);
        due("of the other machine", x.confirm(1), 0);
        states(x, 0, HALTED);
    }

    private static void haltedBeforeBlocked() {
        Due.part("Terms 1: else HALTED ..; else .. BLOCKED");
        CaseLine x = lineWith(2, 50);
        x.set(0, 1, 2);
        x.set(0, 3, 1);
        x.fault(1, 0, 50);
        // Number 1 is in the gap, 2 rejected in tick 1, 3 held from tick 2 on.
        states(x, 0, RUNS, RUNS, RUNS, BLOCKED, HALTED, HALTED);
        due("one", x.confirm(0), 1);
        states(x, 0, BLOCKED);
        due("it held it all the time", x.about(0, 4), 1);
    }

    private static void givenOnIfThereIsRoom() {
        Due.part("Terms 1: a finished unit that goes into its GAP now (there is room), it is given on");
        CaseLine x = lineWith(2, 50);
        x.fault(1, 0, 4);
        states(x, 0, RUNS, RUNS, RUNS);
        due("the last room is taken", x.about(0, 5), 2);
        due("three are finished", x.about(0, 1), 3);
        states(x, 0, BLOCKED, BLOCKED);
        // In tick 5 the last machine takes one: there is room for one again.
        states(x, 0, RUNS);
        due("full again", x.about(0, 5), 2);
        due("four are finished", x.about(0, 1), 4);
        x = lineWith(2, 50);
        x.fault(1, 0, 50);
        x.ticks(5);
        due("blocked", x.about(0, 0), BLOCKED);
        x.set(0, 3, 3);
        states(x, 0, RUNS, BLOCKED);
        due("a wider gap has room for one", x.about(0, 5), 3);
    }

    private static void goesOnAsWithout() {
        Due.part("Terms 1: it is given on, and it goes on in this TICK as without");
        CaseLine x = lineWith(2, 2);
        states(x, 0, RUNS);
        due("one finished", x.about(0, 1), 1);
        states(x, 0, RUNS);
        due("given on", x.about(0, 5), 1);
        due("and the second finished in the same tick", x.about(0, 1), 2);
        states(x, 0, STARVED);
        due("given on, though starved", x.about(0, 4), 0);
        due("the one that the last took is gone, the other in the gap", x.about(0, 5), 1);
    }

    private static void blockedIfThereIsNoRoom() {
        Due.part("Terms 1: if there is no room it is BLOCKED");
        CaseLine x = lineWith(2, 9);
        x.set(0, 3, 1);
        x.fault(1, 0, 50);
        x.ticks(2);
        due("taken", x.book(2), 2);
        states(x, 0, BLOCKED, BLOCKED, BLOCKED);
        due("none is taken when blocked", x.book(2), 2);
        due("the supply stays", x.book(1), 7);
        due("none is finished", x.about(0, 1), 2);
        due("it does not run", x.about(0, 7), 2);
    }

    private static void oneTickOfItsPaceMore() {
        Due.part("Terms 1: else, if it works on a unit, one TICK of its PACE more is done");
        CaseLine x = lineWith(2, 1);
        x.set(0, 0, 5);
        states(x, 0, RUNS, RUNS, RUNS, RUNS);
        due("four are done", x.about(0, 1), 0);
        due("one was taken", x.book(2), 1);
        states(x, 0, RUNS);
        due("the fifth", x.about(0, 1), 1);
        states(x, 0, STARVED);
        x = lineWith(2, 1);
        x.set(0, 0, 2);
        x.fault(0, 1, 3);
        states(x, 0, RUNS, FAULTY, FAULTY, FAULTY);
        due("none is done in a fault", x.about(0, 1), 0);
        states(x, 0, RUNS);
        due("but after it", x.about(0, 1), 1);
    }

    private static void takesOneFromAhead() {
        Due.part("Terms 1: else it takes one from the GAP ahead (MACHINE 0 from THE SUPPLY), and one TICK of its PACE is done");
        CaseLine x = lineWith(2, 1);
        x.ticks(1);
        due("the supply", x.book(1), 0);
        due("taken and finished in one tick", x.about(0, 1), 1);
        x.ticks(1);
        due("in the gap", x.about(0, 5), 1);
        x.set(1, 0, 2);
        x.ticks(1);
        due("taken from the gap", x.about(0, 5), 0);
        due("at work", x.about(1, 4), 1);
        due("one tick of two", x.about(1, 1), 0);
        x.ticks(1);
        due("two", x.about(1, 1), 1);
    }

    private static void starved() {
        Due.part("Terms 1: else it is STARVED");
        CaseLine x = lineWith(2, 1);
        states(x, 0, RUNS, STARVED, STARVED);
        x = new CaseLine();
        x.ticks(1);
        due("an empty supply", x.about(0, 0), STARVED);
        due("an empty gap", x.about(1, 0), STARVED);
        due("it does not run", x.about(0, 7), 0);
        due("it does not run", x.about(1, 7), 0);
        x.supply(1);
        states(x, 0, RUNS);
    }

    private static void finishedAndCounted() {
        Due.part("Terms 1: A unit on which PACE TICKS are done is finished: it is counted");
        CaseLine x = lineWith(2, 9);
        x.set(0, 1, 1);
        x.set(1, 0, 5);
        x.ticks(1);
        due("a rejected one counts", x.about(0, 1), 1);
        x.set(0, 1, 0);
        x.set(0, 2, 1);
        x.ticks(1);
        due("a sample counts", x.about(0, 1), 2);
        x.set(0, 2, 0);
        x.ticks(1);
        due("a held one counts", x.about(0, 1), 3);
        // A pace made as short as what is done: it is finished when a tick is done on it again.
        x = lineWith(2, 9);
        x.set(0, 0, 5);
        x.ticks(4);
        x.set(0, 0, 4);
        due("no word finishes it", x.about(0, 1), 0);
        x.ticks(1);
        due("the tick does", x.about(0, 1), 1);
    }

    private static void rejectedBeforeSampled() {
        Due.part("Terms 1: if r is not 0 and divides its number (1, 2, ..) it is REJECTED (it is out); else if s does, SAMPLED");
        CaseLine x = lineWith(2, 50);
        x.set(0, 1, 6);
        x.set(0, 2, 3);
        int[] rejected = {0, 0, 0, 0, 0, 1, 1, 1, 1, 1, 1, 2};
        int[] sampled = {0, 0, 1, 1, 1, 1, 1, 1, 2, 2, 2, 2};
        for (int i = 0; i < 12; i++) {
            x.ticks(1);
            x.confirm(0);
            due("rejected of " + (i + 1), x.about(0, 2), rejected[i]);
            due("sampled of " + (i + 1), x.about(0, 3), sampled[i]);
        }
        x = lineWith(2, 50);
        x.set(0, 1, 1);
        x.set(0, 2, 1);
        x.ticks(1);
        due("number 1 by 1: rejected", x.about(0, 2), 1);
        due("and no sample", x.about(0, 3), 0);
        due("it is out", x.about(0, 4), 0);
    }

    private static void sampledIsOut() {
        Due.part("Terms 1: else if s does, SAMPLED (out)");
        CaseLine x = lineWith(2, 1);
        x.set(0, 2, 1);
        x.ticks(1);
        due("sampled", x.about(0, 3), 1);
        due("out of the machine", x.about(0, 4), 0);
        x.ticks(5);
        due("none came on", x.about(0, 5) + x.about(1, 1), 0);
        due("no reject of it", x.about(0, 6), 0);
        due("never halted", x.about(0, 0), STARVED);
        due("on the line", x.book(6), 0);
    }

    private static void goodAtTheLastMachine() {
        Due.part("Terms 1: else, at the last MACHINE, it is GOOD");
        for (int m = 2; m <= 6; m++) {
            CaseLine x = lineWith(m, 1);
            // Each machine but the last finishes in one tick and gives on in the next.
            x.ticks(2 * (m - 1));
            due("not yet on a line of " + m, x.book(3), 0);
            x.ticks(1);
            due("good on a line of " + m, x.book(3), 1);
            due("out of the machine", x.about(m - 1, 4), 0);
        }
        CaseLine x = lineWith(2, 4);
        x.set(1, 1, 4);
        x.set(1, 2, 3);
        x.ticks(10);
        due("neither the reject nor the sample of the last is good", x.book(3), 2);
        due("nor has a code", x.code(2, 0), BAD);
    }

    private static void heldUntilTheNextTick() {
        Due.part("Terms 1: else it is held, finished, and given on at the beginning of one of the next TICKS of that MACHINE");
        CaseLine x = lineWith(2, 1);
        x.ticks(1);
        due("held", x.about(0, 4), 1);
        due("not in the gap yet", x.about(0, 5), 0);
        x.ticks(1);
        due("not held", x.about(0, 4), 0);
        due("in the gap", x.about(0, 5), 1);
        x = lineWith(2, 1);
        x.fault(0, 1, 5);
        x.ticks(6);
        due("held through a fault", x.about(0, 4), 1);
        x.ticks(1);
        due("given on after it", x.about(0, 5), 1);
    }

    private static void confirmedAreAll() {
        Due.part("Terms 1: CONFIRMED are all REJECTS of a MACHINE by a word");
        CaseLine x = lineWith(2, 50);
        x.set(0, 1, 1);
        x.ticks(50);
        due("three until it halts", x.confirm(0), 3);
        due("none is left", x.about(0, 6), 0);
        due("none to confirm", x.confirm(0), 0);
        due("they are rejected for all that", x.about(0, 2), 3);
        states(x, 0, RUNS, RUNS, RUNS, HALTED);
    }

    private static void codesAsTheyCome() {
        Due.part("Terms 1: GOOD units have CODES 0, 1, .. as they come");
        CaseLine x = lineWith(2, 3);
        x.ticks(2);
        due("none yet", x.code(0, 2), BAD);
        for (int code = 0; code < 3; code++) {
            x.ticks(1);
            due("code " + code, x.code(code, 2), 0);
            due("the next is none yet", x.code(code + 1, 2), BAD);
        }
        x.line(2);
        x.supply(1);
        x.ticks(3);
        due("on a line anew they go on", x.code(3, 2), 0);
        due("one more", x.code(4, 2), BAD);
    }

    private static void twoHundredHaveCodes() {
        Due.part("Terms 1: CODES (200 at most have; then no more have one)");
        CaseLine x = lineWith(2, 300);
        x.ticks(201);
        due("199 are good", x.book(3), 199);
        due("code 198", x.code(198, 0), NONE);
        due("code 199 is none yet", x.code(199, 0), BAD);
        due("it can't be packed", x.pack(199, 0), NO);
        x.ticks(1);
        due("200 are good", x.book(3), 200);
        due("code 199", x.code(199, 0), NONE);
        x.ticks(1);
        due("201 are good", x.book(3), 201);
        due("no code 200", x.code(200, 0), BAD);
        due("no code 200", x.pack(200, 0), BAD);
        due("no code 200", x.scale(200, 5), BAD);
        due("code 199 is packed", x.pack(199, 29), 1);
        x.ticks(90);
        due("loose of the lot", x.recall(0, 2), 199);
        x.line(2);
        x.lot(5);
        x.supply(9);
        x.ticks(20);
        due("good on a line anew", x.book(3), 9);
        due("none of that lot has a code", x.recall(5, 2), 0);
        due("code 0 is what it was", x.code(0, 2), 0);
        due("code 199, too", x.code(199, 0), 29);
    }

    private static void theLotThatIsThen() {
        Due.part("Terms 1: each with THE LOT that is then");
        CaseLine x = lineWith(2, 3);
        x.lot(15);
        x.ticks(2);
        x.lot(0);
        x.ticks(1);
        due("the lot when it was good, not when it was taken", x.code(0, 2), 0);
        x.lot(15);
        due("it keeps it", x.code(0, 2), 0);
        x.ticks(1);
        due("the next has the next", x.code(1, 2), 15);
        x.lot(14);
        x.lot(1);
        x.ticks(1);
        due("the latest word counts", x.code(2, 2), 1);
    }

    private static void causeThatMachine() {
        Due.part("Terms 1: THE CAUSE .. in which the last MACHINE did not RUN: FAULTY, HALTED or BLOCKED: that MACHINE");
        CaseLine x = lineWith(6, 50);
        x.fault(5, 0, 4);
        x.ticks(5);
        due("the last, faulty", x.cause(5), 5);
        x = lineWith(2, 50);
        x.set(1, 1, 1);
        x.ticks(5);
        due("it ran in the ticks 2, 3, 4", x.cause(1), 0);
        x.ticks(6);
        due("the last, halted", x.cause(1), 6);
        x = lineWith(2, 50);
        x.set(0, 1, 1);
        x.ticks(3);
        due("not halted yet", x.cause(0), 0);
        x.ticks(4);
        due("the one ahead, halted", x.cause(0), 4);
        x = lineWith(3, 50);
        x.fault(1, 0, 9);
        x.fault(0, 4, 9);
        x.ticks(10);
        due("the one ahead, faulty; not the one ahead of it", x.cause(1), 10);
        due("none on the first", x.cause(0), 0);
    }

    private static void causeAheadOfTheStarved() {
        Due.part("Terms 1: from it on, as long as one was STARVED, that ahead of it");
        CaseLine x = lineWith(6, 50);
        x.fault(0, 0, 6);
        x.ticks(7);
        due("five are starved: the first", x.cause(0), 7);
        x = lineWith(6, 50);
        x.fault(3, 0, 6);
        x.fault(0, 0, 6);
        x.ticks(7);
        due("two are starved: the third of them", x.cause(3), 7);
        due("not the first", x.cause(0), 0);
    }

    private static void causeThePace() {
        Due.part("Terms 1: RUNS: THE PACE");
        CaseLine x = lineWith(6, 50);
        x.ticks(10);
        due("until the last has one", x.cause(6), 10);
        x.ticks(1);
        due("it runs", x.cause(6), 10);
        x = lineWith(2, 50);
        x.set(0, 0, 5);
        x.ticks(6);
        due("the first is slow", x.cause(6), 6);
        x.ticks(1);
        due("the last runs in tick 6", x.cause(6), 6);
        due("it ran", x.about(1, 7), 1);
    }

    private static void causeTheSupply() {
        Due.part("Terms 1: none ahead of MACHINE 0: THE SUPPLY");
        for (int m = 2; m <= 6; m++) {
            CaseLine x = new CaseLine();
            x.line(m);
            x.ticks(3);
            due("all are starved on a line of " + m, x.cause(7), 3);
            x.supply(1);
            x.ticks(1);
            due("the first runs", x.cause(7), 3);
        }
    }

    private static void noCauseWhenTheLastRuns() {
        Due.part("Terms 1: THE CAUSE of a TICK in which the last MACHINE did not RUN");
        CaseLine x = lineWith(2, 50);
        x.ticks(2);
        x.fault(0, 2, 9);
        x.ticks(1);
        due("the last ran, the first was faulty", x.about(1, 0), RUNS);
        due("none laid on the first", x.cause(0), 0);
        due("stopped as before", x.book(7), 2);
        x.ticks(1);
        due("now it is", x.cause(0), 1);
        due("stopped", x.book(7), 3);
    }
}
