import java.util.Arrays;
import java.util.IdentityHashMap;
import java.util.Map;

/**
 * What stands behind a call: a state is made anew for each part of it that is read, with the call
 * and without, and every answer that the object gives then is compared. An object is good for 512
 * calls, so a state is made by 300 calls at most and a part is read by 210.
 */
final class Behind {
    static final int BAD = -1, NO = -2, FULL = -3, NONE = -4;
    static final int LOW = Integer.MIN_VALUE, TOP = Integer.MAX_VALUE;

    private static final int PARTS = 13, CODES_A_PART = 50, PLACES_A_PART = 49;

    private static final Map<State, int[][]> KNOWN = new IdentityHashMap<>();

    interface State {
        void make(CaseLine x);
    }

    interface Call {
        int on(CaseLine x);
    }

    interface CallOf {
        int on(CaseLine x, int v);
    }

    /** A new object. */
    static final State FRESH = x -> { };

    /** A line in the midst of its work, codes of two lots, cases and pallets of every sort. */
    static final State BUSY = Behind::makeBusy;

    private Behind() {
    }

    private static void makeBusy(CaseLine x) {
        x.line(3);
        x.set(0, 1, 9);
        x.set(1, 0, 2);
        x.set(1, 2, 5);
        x.set(0, 3, 3);
        x.supply(100);
        x.fault(2, 12, 14);
        x.fault(1, 62, 64);
        x.lot(3);
        x.ticks(30);
        x.confirm(0);
        x.lot(7);
        x.ticks(18);
        x.confirm(0);
        x.ticks(10);
        x.rule(0, 2);
        x.rule(1, 2);
        int[] cases = {0, 0, 1, 1, 2, 2, 3, 3, 4, 5, 5, 29};
        for (int code = 0; code < cases.length; code++) {
            x.pack(code, cases[code]);
        }
        for (int box = 0; box < 4; box++) {
            x.close(box);
        }
        x.stack(0, 0);
        x.stack(1, 0);
        x.stack(2, 1);
        x.seal(1);
        for (int code = 0; code < 6; code++) {
            x.scale(code, 93 + 3 * code);
        }
        x.layer(9, 7, 3, 2);
        x.change(0, 1, 12);
        x.change(4, 2, 7);
        x.stain(3, 2);
        x.stain(1, 1);
    }

    /** The call answers so, and nothing behind it is otherwise than without it. */
    static void refused(String name, int want, State state, Call call) {
        CaseLine x = new CaseLine();
        state.make(x);
        Due.due(name, call.on(x), want);
        Due.due(name + ": nothing changes behind it, part", changedPart(state, call), NONE);
    }

    /** Every number beyond a span is BAD, and changes nothing. */
    static void outside(String name, int least, int most, State state, CallOf call) {
        for (int v : beyond(least, most)) {
            refused(name + ", told " + v, BAD, state, x -> call.on(x, v));
        }
    }

    /** Next to the ends, Java's ends, the answers that are no numbers, and what comes back by a wrap-around. */
    private static int[] beyond(int least, int most) {
        int[] all = {least - 1, most + 1, LOW, LOW + 1, TOP - 1, TOP, BAD, NO, FULL, NONE, least + (1 << 30),
            most - (1 << 30), least + LOW, most + LOW, least + (1 << 16), most - (1 << 16), least + 256, most - 256,
            least + 32, most - 32};
        return Arrays.stream(all).filter(v -> v < least || v > most).distinct().toArray();
    }

    /** The first part that is read otherwise after the call than without it; NONE, if none is. */
    static int changedPart(State state, Call call) {
        int[][] without = KNOWN.computeIfAbsent(state, Behind::readAll);
        for (int part = 0; part < PARTS; part++) {
            CaseLine x = new CaseLine();
            state.make(x);
            call.on(x);
            if (!Arrays.equals(read(x, part), without[part])) {
                return part;
            }
        }
        return NONE;
    }

    private static int[][] readAll(State state) {
        int[][] all = new int[PARTS][];
        for (int part = 0; part < PARTS; part++) {
            CaseLine x = new CaseLine();
            state.make(x);
            all[part] = read(x, part);
        }
        return all;
    }

    private static int[] read(CaseLine x, int part) {
        Row row = new Row();
        switch (part) {
            case 0: readLine(x, row); break;
            case 1: readSettings(x, row); break;
            case 2: readOn(x, row); break;
            case 3: case 4: case 5: case 6: readCodes(x, row, (part - 3) * CODES_A_PART); break;
            case 7: readCases(x, row); break;
            case 8: readPallets(x, row); break;
            case 9: case 10: case 11: readPlaces(x, row, (part - 9) * PLACES_A_PART); break;
            default: readTours(x, row); break;
        }
        return row.all();
    }

    private static void readLine(CaseLine x, Row row) {
        for (int what = 0; what < 8; what++) {
            row.put(x.book(what));
            row.put(x.cause(what));
            for (int machine = 0; machine < 6; machine++) {
                row.put(x.about(machine, what));
            }
        }
    }

    private static void readSettings(CaseLine x, Row row) {
        for (int machine = 0; machine < 6; machine++) {
            for (int what = 0; what < 4; what++) {
                row.put(x.set(machine, what, what == 3 ? 20 : 1));
            }
            row.put(x.confirm(machine));
        }
        for (int what = 0; what < 6; what++) {
            row.put(x.rule(what, 12));
        }
        row.put(x.fault(0, 9999, 9999));
        row.put(x.lot(0));
        row.put(x.supply(1));
    }

    /** The ticks that come next tell of faults, of work begun and of settings. */
    private static void readOn(CaseLine x, Row row) {
        for (int tick = 0; tick < 20; tick++) {
            row.put(x.ticks(1));
            row.put(x.book(3));
            for (int machine = 0; machine < 6; machine++) {
                row.put(x.about(machine, 0));
            }
        }
    }

    private static void readCodes(CaseLine x, Row row, int first) {
        for (int code = first; code < first + CODES_A_PART; code++) {
            for (int what = 0; what < 4; what++) {
                row.put(x.code(code, what));
            }
        }
    }

    private static void readCases(CaseLine x, Row row) {
        for (int box = 0; box < 30; box++) {
            for (int what = 0; what < 5; what++) {
                row.put(x.box(box, what));
            }
        }
    }

    private static void readPallets(CaseLine x, Row row) {
        for (int lot = 0; lot < 16; lot++) {
            for (int what = 0; what < 3; what++) {
                row.put(x.recall(lot, what));
            }
        }
        for (int pallet = 0; pallet < 6; pallet++) {
            row.put(x.seal(pallet));
            row.put(x.breakUp(1, pallet));
        }
        for (int box = 0; box < 30; box++) {
            row.put(x.breakUp(0, box));
        }
    }

    private static void readPlaces(CaseLine x, Row row, int first) {
        row.put(x.holds());
        for (int i = first; i < first + PLACES_A_PART; i++) {
            for (int what = 0; what < 4; what++) {
                row.put(x.planned(i, what));
            }
        }
    }

    private static void readTours(CaseLine x, Row row) {
        for (int what = 0; what < 3; what++) {
            row.put(x.scales(what));
        }
        for (int from = 0; from < 6; from++) {
            for (int i = -1; i < 7; i++) {
                row.put(x.tour(63, from, i));
            }
            for (int to = 0; to < 6; to++) {
                row.put(x.tour(1 << from | 1 << to, from, -1));
            }
        }
        for (int from = 0; from < 6; from++) {
            for (int to = 0; to < 6; to++) {
                row.put(x.change(from, to, 1));
            }
            row.put(x.stain(from, 0));
        }
    }

    /** Answers in a row. */
    private static final class Row {
        private final int[] answer = new int[512];
        private int count;

        void put(int v) {
            answer[count] = v;
            count++;
        }

        int[] all() {
            return Arrays.copyOf(answer, count);
        }
    }
}
