/** Promises 1 to 11: the line. */
public final class LineTest {
    private static final int BAD = -1, NO = -2, FULL = -3, NONE = -4;
    private static final int FAULTY = 0, HALTED = 1, BLOCKED = 2, RUNS = 3, STARVED = 4;
    private static final int LOW = Integer.MIN_VALUE, TOP = Integer.MAX_VALUE;

    public static void main(String[] args) {
        constants();
        newObject();
        line();
        set();
        setInTheMidst();
        fault();
        faultSpans();
        supply();
        lot();
        ticks();
        pace();
        blocked();
        gapWithRoom();
        confirm();
        haltBeforeOthers();
        aboutAndSamples();
        cause();
        causeOfTheLast();
        book();
        Due.end();
    }

    private static void due(String call, long got, long want) {
        Due.due(call, got, want);
    }

    private static void constants() {
        Due.part("constants");
        due("BAD", CaseLine.BAD, BAD);
        due("NO", CaseLine.NO, NO);
        due("FULL", CaseLine.FULL, FULL);
        due("NONE", CaseLine.NONE, NONE);
    }

    private static void newObject() {
        Due.part("1 new object");
        CaseLine x = new CaseLine();
        for (int what = 0; what < 8; what++) {
            due("book " + what, x.book(what), 0);
            due("cause " + what, x.cause(what), 0);
            due("about 0 " + what, x.about(0, what), what == 0 ? NONE : 0);
            due("about 1 " + what, x.about(1, what), what == 0 ? NONE : 0);
            due("about 2 " + what, x.about(2, what), BAD);
        }
        for (int box = 0; box < 30; box++) {
            for (int what = 0; what < 5; what++) {
                due("box " + box + " " + what, x.box(box, what), what < 2 ? 0 : NONE);
            }
        }
        due("a code", x.code(0, 0), BAD);
        due("no layer", x.planned(0, 0), NO);
        due("no layer holds", x.holds(), NO);
        int[] rules = {4, 6, 100, 50, 5, 60};
        for (int what = 0; what < 6; what++) {
            due("rule " + what, x.rule(what, 1), rules[what]);
        }
        due("lot", x.lot(1), 0);
        int[] settings = {1, 0, 0, 2};
        for (int what = 0; what < 4; what++) {
            due("set 0 " + what, x.set(0, what, 1), settings[what]);
        }
        due("one fault", x.fault(0, 0, 0), 1);
        due("change", x.change(0, 5, 1), 30);
        due("stain", x.stain(5, 1), 0);
        due("scales", x.scales(0) + x.scales(1) + x.scales(2), 0);
        x = new CaseLine();
        due("a tick", x.ticks(1), 1);
        due("nothing taken", x.book(2), 0);
        due("for want of supply", x.cause(7), 1);
    }

    private static void line() {
        Due.part("2 line");
        CaseLine x = new CaseLine();
        for (int m = 2; m <= 6; m++) {
            due("line " + m, x.line(m), m);
            due("the last", x.about(m - 1, 1), 0);
            due("beyond the last", x.about(m, 1), BAD);
        }
        x = withCodes(3);
        x.pack(0, 4);
        x.rule(0, 1);
        x.close(4);
        x.stack(4, 2);
        x.lot(7);
        x.set(0, 0, 5);
        x.set(1, 1, 2);
        x.set(0, 2, 9);
        x.set(0, 3, 20);
        x.supply(100);
        x.fault(1, 100, 200);
        x.ticks(5);
        int[] wrong = {1, 7, 0, -1, LOW, TOP};
        for (int m : wrong) {
            due("line " + m, x.line(m), BAD);
        }
        due("ticks as they were", x.book(0), 10);
        due("line 2", x.line(2), 2);
        for (int what = 0; what < 8; what++) {
            due("book " + what, x.book(what), 0);
            due("cause " + what, x.cause(what), 0);
            due("about 0 " + what, x.about(0, what), what == 0 ? NONE : 0);
            due("about 1 " + what, x.about(1, what), what == 0 ? NONE : 0);
        }
        due("pace", x.set(0, 0, 1), 1);
        due("rejects", x.set(1, 1, 0), 0);
        due("samples", x.set(0, 2, 0), 0);
        due("gap", x.set(0, 3, 2), 2);
        due("faults", x.fault(0, 0, 0), 1);
        due("codes stay", x.code(2, 0), NONE);
        due("cases stay", x.code(0, 0), 4);
        due("pallets stay", x.code(0, 1), 2);
        due("rules stay", x.rule(0, 4), 1);
        due("the lot stays", x.lot(0), 7);
    }

    /** A line that has just made so many good units: each with the code of its number. */
    private static CaseLine withCodes(int units) {
        CaseLine x = new CaseLine();
        x.supply(units);
        x.ticks(units + 2);
        return x;
    }

    private static void set() {
        Due.part("3 set");
        CaseLine x = new CaseLine();
        int[] least = {1, 0, 0, 1};
        int[] most = {5, 99, 99, 20};
        int[] first = {1, 0, 0, 2};
        for (int what = 0; what < 4; what++) {
            int[] wrong = {least[what] - 1, most[what] + 1, LOW, TOP};
            for (int v : wrong) {
                due("set 0 " + what + " " + v, x.set(0, what, v), BAD);
            }
            due("the most " + what, x.set(0, what, most[what]), first[what]);
            due("the least " + what, x.set(0, what, least[what]), most[what]);
            due("it was " + what, x.set(0, what, least[what]), least[what]);
            due("no machine", x.set(2, what, 1), BAD);
            due("no machine", x.set(-1, what, 1), BAD);
            due("no machine", x.set(LOW, what, 1), BAD);
            due("no machine", x.set(TOP, what, 1), BAD);
            due("of the last", x.set(1, what, most[what]), what == 3 ? BAD : first[what]);
        }
        due("what 4", x.set(0, 4, 1), BAD);
        due("what -1", x.set(0, -1, 1), BAD);
        due("what LOW", x.set(0, LOW, 1), BAD);
        due("what TOP", x.set(0, TOP, 1), BAD);
        x = new CaseLine();
        x.line(6);
        due("a gap of the last but one", x.set(4, 3, 3), 2);
        due("no gap of the last", x.set(5, 3, 3), BAD);
        x.line(2);
        due("no machine any more", x.set(4, 0, 3), BAD);
        // Three units in the gap: the second machine is faulty all the time.
        x.set(0, 3, 5);
        x.fault(1, 0, 99);
        x.supply(3);
        x.ticks(9);
        due("in the gap", x.about(0, 5), 3);
        due("more are in it", x.set(0, 3, 2), NO);
        due("as many are in it", x.set(0, 3, 3), 5);
        due("21 is BAD first", x.set(0, 3, 21), BAD);
        due("0 is BAD first", x.set(0, 3, 0), BAD);
        due("nothing changed", x.set(0, 3, 4), 3);
    }

    private static void setInTheMidst() {
        Due.part("3 set of a pace while a unit is on");
        CaseLine x = new CaseLine();
        x.set(0, 0, 5);
        x.supply(1);
        x.ticks(3);
        x.set(0, 0, 2);
        due("not finished by the word", x.about(0, 1), 0);
        x.ticks(1);
        due("finished by the next tick", x.about(0, 1), 1);
        due("held", x.about(0, 4), 1);
        x.line(2);
        x.set(0, 0, 2);
        x.supply(1);
        x.ticks(1);
        x.set(0, 0, 5);
        x.ticks(3);
        due("not yet", x.about(0, 1), 0);
        x.ticks(1);
        due("in five ticks", x.about(0, 1), 1);
    }

    private static void fault() {
        Due.part("4 fault");
        CaseLine x = new CaseLine();
        int[] machines = {-1, 2, 6, LOW, TOP};
        for (int m : machines) {
            due("machine " + m, x.fault(m, 0, 0), BAD);
        }
        due("a below b", x.fault(0, 5, 4), BAD);
        due("a -1", x.fault(0, -1, 4), BAD);
        due("a LOW", x.fault(0, LOW, 4), BAD);
        due("b 10000", x.fault(0, 0, 10000), BAD);
        due("b TOP", x.fault(0, 0, TOP), BAD);
        due("a 10000", x.fault(0, 10000, 10000), BAD);
        due("none was made", x.fault(0, 9999, 9999), 1);
        x.ticks(10);
        due("gone by", x.fault(0, 9, 20), NO);
        due("gone by, too", x.fault(1, 0, 9999), NO);
        due("the next tick", x.fault(0, 10, 10), 2);
        due("it is", x.ticks(1), 11);
        due("faulty", x.about(0, 0), FAULTY);
        due("the other one not", x.about(1, 0), STARVED);
        for (int n = 3; n <= 8; n++) {
            due("fault " + n, x.fault(n % 2, 20, 30), n);
        }
        due("a ninth", x.fault(0, 20, 30), FULL);
        due("NO comes first", x.fault(0, 5, 30), NO);
        due("BAD comes first", x.fault(0, 5, 4), BAD);
        x.ticks(100);
        due("those gone by count", x.fault(0, 200, 300), FULL);
        x.line(3);
        due("none on a line anew", x.fault(2, 0, 1), 1);
    }

    private static void faultSpans() {
        Due.part("4 fault, its span");
        CaseLine x = new CaseLine();
        x.supply(100);
        x.fault(0, 3, 5);
        x.fault(0, 5, 6);
        int[] states = {RUNS, RUNS, RUNS, FAULTY, FAULTY, FAULTY, FAULTY, RUNS};
        for (int tick = 0; tick < states.length; tick++) {
            x.ticks(1);
            due("in tick " + tick, x.about(0, 0), states[tick]);
        }
        due("the other had two to run on", x.about(1, 1), 2);
        due("finished", x.about(0, 1), 4);
        // A faulty machine does not work on: two of three ticks are done, the third waits.
        x.line(2);
        x.set(0, 0, 3);
        x.supply(1);
        x.fault(0, 2, 4);
        x.ticks(5);
        due("not finished", x.about(0, 1), 0);
        x.ticks(1);
        due("finished", x.about(0, 1), 1);
        // Nor does it give on.
        x.line(2);
        x.supply(1);
        x.fault(0, 1, 2);
        x.ticks(3);
        due("held", x.about(0, 4), 1);
        due("nothing in the gap", x.about(0, 5), 0);
    }

    private static void supply() {
        Due.part("5 supply");
        CaseLine x = new CaseLine();
        int[] wrong = {0, -1, 1001, LOW, TOP};
        for (int n : wrong) {
            due("supply " + n, x.supply(n), BAD);
        }
        due("supply 1", x.supply(1), 1);
        due("supply 1000", x.supply(1000), 1001);
        for (int n = 2; n < 100; n++) {
            due("supply, time " + n, x.supply(1000), n * 1000 + 1);
        }
        due("above 100000", x.supply(1000), FULL);
        due("just 100000", x.supply(999), 100000);
        due("one more", x.supply(1), FULL);
        due("BAD first", x.supply(1001), BAD);
        due("there are", x.book(1), 100000);
        x.ticks(1);
        due("one is taken", x.book(1), 99999);
        due("one more goes", x.supply(1), 100000);
    }

    private static void lot() {
        Due.part("6 lot");
        CaseLine x = new CaseLine();
        int[] wrong = {-1, 16, LOW, TOP};
        for (int v : wrong) {
            due("lot " + v, x.lot(v), BAD);
        }
        due("lot 15", x.lot(15), 0);
        due("lot 0", x.lot(0), 15);
        due("lot 5", x.lot(5), 0);
        x.supply(4);
        x.ticks(4);
        due("two are good", x.book(3), 2);
        x.lot(9);
        x.ticks(4);
        due("lot of 0", x.code(0, 2), 5);
        due("lot of 1", x.code(1, 2), 5);
        due("lot of 2", x.code(2, 2), 9);
        due("lot of 3", x.code(3, 2), 9);
        due("no more", x.code(4, 2), BAD);
        x.supply(400);
        x.ticks(300);
        due("good", x.book(3), 302);
        due("the last code", x.code(199, 2), 9);
        due("no code", x.code(200, 2), BAD);
    }

    private static void ticks() {
        Due.part("7 ticks");
        CaseLine x = new CaseLine();
        int[] wrong = {0, -1, 501, LOW, TOP};
        for (int n : wrong) {
            due("ticks " + n, x.ticks(n), BAD);
        }
        due("ticks 1", x.ticks(1), 1);
        for (int n = 1; n < 20; n++) {
            due("ticks 500", x.ticks(500), 500 * n + 1);
        }
        due("beyond", x.ticks(500), FULL);
        due("nothing changed", x.book(0), 9501);
        due("ticks 499", x.ticks(499), 10000);
        due("one more", x.ticks(1), FULL);
        due("BAD first", x.ticks(501), BAD);
        x.line(2);
        due("anew", x.ticks(500), 500);
    }

    private static void pace() {
        Due.part("7 ticks by the pace");
        CaseLine x = new CaseLine();
        x.set(0, 0, 3);
        x.supply(2);
        int[] finished = {0, 0, 1, 1, 1, 2, 2};
        int[] inGap = {0, 0, 0, 1, 0, 0, 1};
        int[] good = {0, 0, 0, 0, 1, 1, 1};
        int[] last = {STARVED, STARVED, STARVED, STARVED, RUNS, STARVED, STARVED};
        int[] first = {RUNS, RUNS, RUNS, RUNS, RUNS, RUNS, STARVED};
        for (int tick = 0; tick < good.length; tick++) {
            x.ticks(1);
            due("finished by " + tick, x.about(0, 1), finished[tick]);
            due("in the gap by " + tick, x.about(0, 5), inGap[tick]);
            due("good by " + tick, x.book(3), good[tick]);
            due("the last in " + tick, x.about(1, 0), last[tick]);
            due("the first in " + tick, x.about(0, 0), first[tick]);
        }
        x.ticks(1);
        due("good", x.book(3), 2);
        due("the first ran", x.about(0, 7), 6);
        due("the last ran", x.about(1, 7), 2);
    }

    private static void blocked() {
        Due.part("7 ticks, blocked");
        CaseLine x = new CaseLine();
        x.set(0, 3, 1);
        x.set(1, 0, 5);
        x.supply(10);
        int[] first = {RUNS, RUNS, RUNS, BLOCKED, BLOCKED, BLOCKED, BLOCKED, RUNS, BLOCKED};
        int[] last = {STARVED, STARVED, RUNS, RUNS, RUNS, RUNS, RUNS, RUNS, RUNS};
        for (int tick = 0; tick < first.length; tick++) {
            x.ticks(1);
            due("the first in " + tick, x.about(0, 0), first[tick]);
            due("the last in " + tick, x.about(1, 0), last[tick]);
        }
        due("good", x.book(3), 1);
        due("taken", x.book(2), 4);
        due("held", x.about(0, 4), 1);
        due("in the gap", x.about(0, 5), 1);
        due("at work", x.about(1, 4), 1);
        due("on the line", x.book(6), 3);
    }

    private static void gapWithRoom() {
        Due.part("7 ticks, a wider gap");
        CaseLine x = new CaseLine();
        x.line(3);
        x.set(0, 3, 4);
        x.fault(1, 0, 50);
        x.supply(20);
        x.ticks(5);
        due("four are in it", x.about(0, 5), 4);
        due("runs", x.about(0, 0), RUNS);
        x.ticks(1);
        due("blocked", x.about(0, 0), BLOCKED);
        due("finished", x.about(0, 1), 5);
        due("the second has none behind it", x.about(1, 5), 0);
    }

    private static void confirm() {
        Due.part("8 confirm");
        CaseLine x = new CaseLine();
        int[] wrong = {-1, 2, LOW, TOP};
        for (int m : wrong) {
            due("confirm " + m, x.confirm(m), BAD);
        }
        x.set(0, 1, 2);
        x.supply(20);
        // Rejected in the ticks 1 and 3, halted from tick 4 on.
        int[] first = {RUNS, RUNS, RUNS, RUNS, HALTED, HALTED};
        int[] open = {0, 1, 1, 2, 2, 2};
        for (int tick = 0; tick < first.length; tick++) {
            x.ticks(1);
            due("the first in " + tick, x.about(0, 0), first[tick]);
            due("not confirmed by " + tick, x.about(0, 6), open[tick]);
        }
        due("of the other", x.confirm(1), 0);
        due("still two", x.about(0, 6), 2);
        due("confirm", x.confirm(0), 2);
        due("confirm again", x.confirm(0), 0);
        due("rejected as before", x.about(0, 2), 2);
        // On from tick 6: number 5 is held; number 6 rejected in tick 7, so halted from tick 10 on.
        int[] then = {RUNS, RUNS, RUNS, RUNS, HALTED};
        for (int i = 0; i < then.length; i++) {
            x.ticks(1);
            due("the first in " + (6 + i), x.about(0, 0), then[i]);
        }
        due("not confirmed", x.confirm(0), 2);
        // One reject alone does, three ticks after it was made in tick 0.
        x.line(2);
        x.set(0, 1, 1);
        x.set(0, 0, 1);
        x.supply(1);
        x.ticks(3);
        due("starved yet", x.about(0, 0), STARVED);
        x.ticks(1);
        due("halted, though starved else", x.about(0, 0), HALTED);
        due("one", x.confirm(0), 1);
        x.ticks(1);
        due("starved again", x.about(0, 0), STARVED);
    }

    private static void haltBeforeOthers() {
        Due.part("8 confirm, halted and faulty");
        CaseLine x = new CaseLine();
        x.set(1, 1, 1);
        x.supply(3);
        x.fault(1, 6, 6);
        // The first unit comes to the last machine in tick 2 and is rejected there.
        int[] last = {STARVED, STARVED, RUNS, RUNS, RUNS, HALTED, FAULTY, HALTED};
        for (int tick = 0; tick < last.length; tick++) {
            x.ticks(1);
            due("the last in " + tick, x.about(1, 0), last[tick]);
        }
        due("rejected", x.about(1, 2), 3);
        due("good", x.book(3), 0);
        due("laid on it", x.cause(1), 3);
        due("confirm", x.confirm(1), 3);
        x.ticks(1);
        due("starved", x.about(1, 0), STARVED);
    }

    private static void aboutAndSamples() {
        Due.part("9 about");
        CaseLine x = new CaseLine();
        int[] wrong = {-1, 8, LOW, TOP};
        for (int what : wrong) {
            due("what " + what, x.about(0, what), BAD);
        }
        int[] machines = {-1, 2, LOW, TOP};
        for (int m : machines) {
            due("machine " + m, x.about(m, 0), BAD);
        }
        x.set(0, 2, 3);
        x.set(0, 1, 6);
        x.supply(6);
        int[] sampled = {0, 0, 1, 1, 1, 1};
        int[] rejected = {0, 0, 0, 0, 0, 1};
        int[] inside = {1, 1, 0, 1, 1, 0};
        for (int tick = 0; tick < sampled.length; tick++) {
            x.ticks(1);
            due("finished by " + tick, x.about(0, 1), tick + 1);
            due("rejected by " + tick, x.about(0, 2), rejected[tick]);
            due("sampled by " + tick, x.about(0, 3), sampled[tick]);
            due("in it by " + tick, x.about(0, 4), inside[tick]);
        }
        due("not confirmed", x.about(0, 6), 1);
        due("ran", x.about(0, 7), 6);
        x.ticks(1);
        due("state", x.about(0, 0), STARVED);
        due("ran as before", x.about(0, 7), 6);
        x.ticks(3);
        due("good", x.book(3), 4);
        due("finished by the last", x.about(1, 1), 4);
        due("of the last none is rejected", x.about(1, 2), 0);
        due("of the last none is in a gap", x.about(1, 5), 0);
        // At the last machine, too, samples are out: they have no code.
        x.line(2);
        x.set(1, 2, 2);
        x.supply(4);
        x.ticks(8);
        due("sampled", x.about(1, 3), 2);
        due("good of the last", x.book(3), 2);
        due("codes of both lines", x.code(5, 0), NONE);
        due("no more codes", x.code(6, 0), BAD);
    }

    private static void cause() {
        Due.part("10 cause");
        CaseLine x = new CaseLine();
        int[] wrong = {-1, 8, LOW, TOP};
        for (int what : wrong) {
            due("what " + what, x.cause(what), BAD);
        }
        x.line(3);
        x.ticks(2);
        due("the supply", x.cause(7), 2);
        x.supply(50);
        x.ticks(2);
        due("the pace, the first runs", x.cause(6), 2);
        x.line(3);
        x.supply(50);
        x.fault(0, 0, 2);
        x.ticks(4);
        due("the first", x.cause(0), 3);
        due("then the pace", x.cause(6), 1);
        x.line(3);
        x.supply(50);
        x.fault(1, 0, 3);
        x.fault(0, 1, 9);
        x.ticks(6);
        due("the second ahead of the first", x.cause(1), 4);
        // The first finished a unit in tick 0 and is faulty ever since: it never gave it on.
        due("the first when the second is starved", x.cause(0), 2);
        due("the pace", x.cause(6), 0);
    }

    private static void causeOfTheLast() {
        Due.part("10 cause, the last itself");
        CaseLine x = new CaseLine();
        x.line(6);
        x.supply(500);
        x.fault(5, 20, 29);
        x.ticks(40);
        due("the last, faulty", x.cause(5), 10);
        due("the pace until units came", x.cause(6), 10);
        due("in all", x.book(7), 20);
        for (int m = 0; m < 5; m++) {
            due("machine " + m, x.cause(m), 0);
        }
        due("the supply", x.cause(7), 0);
        x.line(2);
        x.set(0, 1, 1);
        x.supply(9);
        x.ticks(8);
        due("halted from tick 3 on", x.cause(0), 5);
        due("the pace before", x.cause(6), 3);
    }

    private static void book() {
        Due.part("11 book");
        CaseLine x = new CaseLine();
        int[] wrong = {-1, 8, LOW, TOP};
        for (int what : wrong) {
            due("what " + what, x.book(what), BAD);
        }
        x.line(3);
        x.set(0, 1, 5);
        x.set(1, 2, 2);
        x.set(2, 1, 3);
        x.supply(12);
        for (int tick = 0; tick < 40; tick++) {
            x.ticks(1);
            for (int m = 0; m < 3; m++) {
                x.confirm(m);
            }
            due("taken is all there is", x.book(2), x.book(3) + x.book(4) + x.book(5) + x.book(6));
            due("the supply", x.book(1), 12 - x.book(2));
        }
        // 12 units: the first rejects its 5th and 10th; of 10 the second samples 5; of 5 the last
        // rejects its 3rd.
        int[] due = {40, 0, 12, 4, 3, 5, 0, 35};
        for (int what = 0; what < 8; what++) {
            due("book " + what, x.book(what), due[what]);
        }
    }
}
