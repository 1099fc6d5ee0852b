import java.util.Arrays;

/**
 * Boxes into cases: a line of machines, the tree of codes, cases and pallets, the layers of a
 * pallet, tours of change-overs, scales. The document DOC.md says what each call answers.
 *
 * <p>The face looks at every number that is told (BAD); the classes inside answer NO and FULL and
 * keep the state. All rows are made with the object, so that no call makes a new one.
 */
public final class CaseLine {
    public static final int BAD = -1, NO = -2, FULL = -3, NONE = -4;

    private static final int LOTS = 16;
    private static final int MOST_TICKS = 10000, TICKS_AT_ONCE = 500;
    private static final int MOST_SUPPLY = 100000, SUPPLY_AT_ONCE = 1000;
    private static final int MOST_TOLD_WEIGHT = 1000000, MOST_UNIT_WEIGHT = 10000;

    private static final int SIZE = 0, HIGH = 1, UNIT = 2, TARE = 3, TOLERANCE = 4, CLEANING = 5;
    private static final int[] RULE_AT_FIRST = {4, 6, 100, 50, 5, 60};
    private static final int[] RULE_LEAST = {1, 1, 0, 0, 0, 0};
    private static final int[] RULE_MOST = {12, 20, 10000, 10000, 1000, 500};

    private final Conveyor conveyor;
    private final Codes codes;
    private final Plan plan;
    private final Tours tours;
    private final int[] rules;
    private int lotNow;

    public CaseLine() {
        conveyor = new Conveyor();
        codes = new Codes();
        plan = new Plan();
        tours = new Tours();
        rules = RULE_AT_FIRST.clone();
    }

    // ---- the line

    public int line(int m) {
        if (!within(m, 2, Conveyor.MACHINES)) {
            return BAD;
        }
        conveyor.renew(m);
        return m;
    }

    public int set(int machine, int what, int v) {
        Machine m = conveyor.machineAt(machine);
        if (m == null || !m.mayBeSet(what, v) || what == Machine.GAP && conveyor.isLast(m)) {
            return BAD;
        }
        if (what == Machine.GAP && m.inGap > v) {
            return NO;
        }
        return m.put(what, v);
    }

    public int fault(int machine, int a, int b) {
        if (conveyor.machineAt(machine) == null || a < 0 || b < a || b >= MOST_TICKS) {
            return BAD;
        }
        if (a < conveyor.ticksDone) {
            return NO;
        }
        return conveyor.faults.add(machine, a, b);
    }

    public int supply(int n) {
        if (!within(n, 1, SUPPLY_AT_ONCE)) {
            return BAD;
        }
        if (conveyor.inSupply + n > MOST_SUPPLY) {
            return FULL;
        }
        conveyor.inSupply += n;
        return conveyor.inSupply;
    }

    public int lot(int v) {
        if (!within(v, 0, LOTS - 1)) {
            return BAD;
        }
        int was = lotNow;
        lotNow = v;
        return was;
    }

    public int ticks(int n) {
        if (!within(n, 1, TICKS_AT_ONCE)) {
            return BAD;
        }
        if (conveyor.ticksDone + n > MOST_TICKS) {
            return FULL;
        }
        for (int i = 0; i < n; i++) {
            if (conveyor.step()) {
                codes.add(lotNow);
            }
        }
        return conveyor.ticksDone;
    }

    public int confirm(int machine) {
        Machine m = conveyor.machineAt(machine);
        if (m == null) {
            return BAD;
        }
        int were = m.unconfirmed;
        m.unconfirmed = 0;
        return were;
    }

    public int about(int machine, int what) {
        Machine m = conveyor.machineAt(machine);
        if (m == null) {
            return BAD;
        }
        switch (what) {
            case 0: return m.state;
            case 1: return m.finished;
            case 2: return m.rejected;
            case 3: return m.sampled;
            case 4: return m.unitsInside();
            case 5: return m.inGap;
            case 6: return m.unconfirmed;
            case 7: return m.ran;
            default: return BAD;
        }
    }

    public int cause(int what) {
        if (!within(what, 0, Conveyor.CAUSES - 1)) {
            return BAD;
        }
        return conveyor.laidOn[what];
    }

    public int book(int what) {
        switch (what) {
            case 0: return conveyor.ticksDone;
            case 1: return conveyor.inSupply;
            case 2: return conveyor.taken;
            case 3: return conveyor.good;
            case 4: return conveyor.allRejected();
            case 5: return conveyor.allSampled();
            case 6: return conveyor.allOnLine();
            case 7: return conveyor.stopped;
            default: return BAD;
        }
    }

    // ---- codes

    public int rule(int what, int v) {
        if (!within(what, SIZE, CLEANING) || !within(v, RULE_LEAST[what], RULE_MOST[what])) {
            return BAD;
        }
        if (what == SIZE && codes.fullestCase() > v || what == HIGH && codes.fullestPallet() > v) {
            return NO;
        }
        int was = rules[what];
        rules[what] = v;
        return was;
    }

    public int pack(int code, int box) {
        if (!within(code, 0, Codes.CODES - 1) || !isBox(box)) {
            return BAD;
        }
        return codes.packInto(code, box, rules[SIZE]);
    }

    public int close(int box) {
        if (!isBox(box)) {
            return BAD;
        }
        return codes.closeBox(box, rules[SIZE]);
    }

    public int weigh(int box, int weight) {
        if (!isBox(box) || !within(weight, 0, MOST_TOLD_WEIGHT)) {
            return BAD;
        }
        int due = rules[SIZE] * rules[UNIT] + rules[TARE];
        if (Math.abs(weight - due) > rules[TOLERANCE]) {
            return NO;
        }
        return codes.closeWithLost(box, rules[SIZE]);
    }

    public int stack(int box, int pallet) {
        if (!isBox(box) || !isPallet(pallet)) {
            return BAD;
        }
        return codes.stackOn(box, pallet, rules[HIGH]);
    }

    public int seal(int pallet) {
        if (!isPallet(pallet)) {
            return BAD;
        }
        return codes.sealPallet(pallet);
    }

    public int breakUp(int what, int i) {
        if (what == 0 && isBox(i)) {
            return codes.breakBox(i);
        }
        if (what == 1 && isPallet(i)) {
            return codes.breakPallet(i);
        }
        return BAD;
    }

    public int code(int code, int what) {
        if (!codes.known(code)) {
            return BAD;
        }
        switch (what) {
            case 0: return codes.boxOf[code];
            case 1: return codes.palletOfCode(code);
            case 2: return codes.lotOf[code];
            case 3: return codes.weightOf[code];
            default: return BAD;
        }
    }

    public int box(int box, int what) {
        if (!isBox(box)) {
            return BAD;
        }
        switch (what) {
            case 0: return codes.unitsIn[box];
            case 1: return codes.boxClosed[box] ? 1 : 0;
            case 2: return codes.palletOf[box];
            case 3: return codes.leastIn(box);
            case 4: return codes.greatestIn(box);
            default: return BAD;
        }
    }

    public int recall(int lot, int what) {
        if (!within(lot, 0, LOTS - 1)) {
            return BAD;
        }
        switch (what) {
            case 0: return codes.boxesWith(lot);
            case 1: return codes.palletsWith(lot);
            case 2: return codes.looseOf(lot);
            default: return BAD;
        }
    }

    // ---- layers

    public int layer(int x, int y, int a, int b) {
        if (!isSide(x) || !isSide(y) || !isSide(a) || !isSide(b)) {
            return BAD;
        }
        return plan.make(x, y, a, b);
    }

    public int planned(int i, int what) {
        if (i < 0 || !within(what, 0, Plan.NUMBERS - 1)) {
            return BAD;
        }
        return plan.made ? plan.numberOf(i, what) : NO;
    }

    public int holds() {
        return plan.made ? plan.holding() : NO;
    }

    // ---- tours, scales

    public int change(int from, int to, int v) {
        if (!isKind(from) || !isKind(to) || from == to || !within(v, 0, 500)) {
            return BAD;
        }
        return tours.putChange(from, to, v);
    }

    public int stain(int kind, int v) {
        if (!isKind(kind) || !within(v, 0, 3)) {
            return BAD;
        }
        return tours.putStain(kind, v);
    }

    public int tour(int set, int from, int i) {
        if (!within(set, 1, Tours.SETS - 1) || !isKind(from) || !Tours.isIn(set, from) || i < -1) {
            return BAD;
        }
        tours.find(set, rules[CLEANING]);
        return i == -1 ? tours.least(from) : tours.kindAt(from, i);
    }

    public int scale(int code, int weight) {
        if (!codes.known(code) || !within(weight, 0, MOST_UNIT_WEIGHT)) {
            return BAD;
        }
        return codes.putWeight(code, weight);
    }

    public int scales(int what) {
        switch (what) {
            case 0: return codes.givenAway(rules[UNIT]);
            case 1: return codes.lighterThan(rules[UNIT] - rules[TOLERANCE]);
            case 2: return codes.weighed();
            default: return BAD;
        }
    }

    // ---- what a number told may be

    private static boolean within(int v, int least, int most) {
        return least <= v && v <= most;
    }

    private static boolean isBox(int i) {
        return within(i, 0, Codes.BOXES - 1);
    }

    private static boolean isPallet(int i) {
        return within(i, 0, Codes.PALLETS - 1);
    }

    private static boolean isSide(int v) {
        return within(v, 1, Plan.SIDE);
    }

    private static boolean isKind(int i) {
        return i >= 0 && i < Tours.KINDS;
    }

    /** One machine of the line, with the gap behind it. */
    private static final class Machine {
        static final int FAULTY = 0, HALTED = 1, BLOCKED = 2, RUNS = 3, STARVED = 4;
        static final int PACE = 0, REJECT_EACH = 1, SAMPLE_EACH = 2, GAP = 3, SETTINGS = 4;

        private static final int[] AT_FIRST = {1, 0, 0, 2};
        private static final int[] LEAST = {1, 0, 0, 1};
        private static final int[] MOST = {5, 99, 99, 20};
        private static final int PATIENCE = 3;

        final int number;
        final Machine ahead;
        final int[] setting = new int[SETTINGS];
        int inGap;
        boolean working;
        boolean holding;
        int ticksOnUnit;
        int finished;
        int rejected;
        int sampled;
        int unconfirmed;
        int oldestReject;
        int state;
        int ran;

        Machine(int number, Machine ahead) {
            this.number = number;
            this.ahead = ahead;
            renew();
        }

        void renew() {
            System.arraycopy(AT_FIRST, 0, setting, 0, SETTINGS);
            inGap = 0;
            working = false;
            holding = false;
            ticksOnUnit = 0;
            finished = 0;
            rejected = 0;
            sampled = 0;
            unconfirmed = 0;
            oldestReject = 0;
            state = NONE;
            ran = 0;
        }

        boolean mayBeSet(int what, int v) {
            return within(what, 0, SETTINGS - 1) && within(v, LEAST[what], MOST[what]);
        }

        int put(int what, int v) {
            if (!mayBeSet(what, v)) {
                return BAD;
            }
            int was = setting[what];
            setting[what] = v;
            return was;
        }

        int unitsInside() {
            return working || holding ? 1 : 0;
        }

        boolean waitsForWord(int tick) {
            return unconfirmed > 0 && tick - oldestReject >= PATIENCE;
        }

        boolean giveOn() {
            if (inGap >= setting[GAP]) {
                return false;
            }
            inGap++;
            holding = false;
            return true;
        }

        boolean unitIsFinished() {
            return ticksOnUnit >= setting[PACE];
        }

        /** The finished unit leaves the work: true, if it is neither rejected nor a sample. */
        boolean passes(int tick) {
            working = false;
            ticksOnUnit = 0;
            finished++;
            if (isEach(setting[REJECT_EACH])) {
                reject(tick);
                return false;
            }
            if (isEach(setting[SAMPLE_EACH])) {
                sampled++;
                return false;
            }
            return true;
        }

        private boolean isEach(int each) {
            return each != 0 && finished % each == 0;
        }

        private void reject(int tick) {
            rejected++;
            // Later rejects wait no longer than the first: only its tick has to be known.
            if (unconfirmed == 0) {
                oldestReject = tick;
            }
            unconfirmed++;
        }
    }

    /** The spans of ticks in which a machine is faulty. */
    private static final class Faults {
        private static final int MOST = 8;

        private final int[] machineOf = new int[MOST];
        private final int[] firstTick = new int[MOST];
        private final int[] lastTick = new int[MOST];
        private int count;

        void clear() {
            count = 0;
        }

        int add(int machine, int a, int b) {
            if (count >= MOST) {
                return FULL;
            }
            machineOf[count] = machine;
            firstTick[count] = a;
            lastTick[count] = b;
            count++;
            return count;
        }

        boolean stop(int machine, int tick) {
            for (int i = 0; i < count; i++) {
                if (machineOf[i] == machine && within(tick, firstTick[i], lastTick[i])) {
                    return true;
                }
            }
            return false;
        }
    }

    /** The line: its machines, its supply, its ticks. */
    private static final class Conveyor {
        static final int MACHINES = 6;
        static final int THE_PACE = 6, THE_SUPPLY = 7, CAUSES = 8;

        private final Machine[] machines = new Machine[MACHINES];
        private int count;
        final Faults faults = new Faults();
        final int[] laidOn = new int[CAUSES];
        int ticksDone;
        int inSupply;
        int taken;
        int good;
        int stopped;

        Conveyor() {
            Machine ahead = null;
            for (int i = 0; i < MACHINES; i++) {
                ahead = new Machine(i, ahead);
                machines[i] = ahead;
            }
            count = 2;
        }

        void renew(int m) {
            count = m;
            for (int i = 0; i < MACHINES; i++) {
                Machine each = machines[i];
                if (each != null) {
                    each.renew();
                }
            }
            faults.clear();
            Arrays.fill(laidOn, 0);
            ticksDone = 0;
            inSupply = 0;
            taken = 0;
            good = 0;
            stopped = 0;
        }

        Machine machineAt(int i) {
            return i >= 0 && i < count && i < MACHINES ? machines[i] : null;
        }

        boolean isLast(Machine m) {
            return m.number == count - 1;
        }

        private Machine last() {
            return machineAt(count - 1);
        }

        /** One tick; true, if a good unit came of it (the last machine finishes one at most). */
        boolean step() {
            int before = good;
            // From the last to the first: a machine gives on into what was taken from in this tick.
            for (Machine m = last(); m != null; m = m.ahead) {
                m.state = stepOf(m);
                if (m.state == Machine.RUNS) {
                    m.ran++;
                }
            }
            layOnCause();
            ticksDone++;
            return good != before;
        }

        private int stepOf(Machine m) {
            if (faults.stop(m.number, ticksDone)) {
                return Machine.FAULTY;
            }
            if (m.waitsForWord(ticksDone)) {
                return Machine.HALTED;
            }
            if (m.holding && !m.giveOn()) {
                return Machine.BLOCKED;
            }
            if (!m.working && !takeFor(m)) {
                return Machine.STARVED;
            }
            m.ticksOnUnit++;
            if (m.unitIsFinished()) {
                finishAt(m);
            }
            return Machine.RUNS;
        }

        private boolean takeFor(Machine m) {
            if (m.ahead == null) {
                if (inSupply == 0) {
                    return false;
                }
                inSupply--;
                taken++;
            } else {
                if (m.ahead.inGap == 0) {
                    return false;
                }
                m.ahead.inGap--;
            }
            m.working = true;
            return true;
        }

        private void finishAt(Machine m) {
            if (!m.passes(ticksDone)) {
                return;
            }
            if (isLast(m)) {
                good++;
            } else {
                m.holding = true;
            }
        }

        private void layOnCause() {
            Machine m = last();
            if (m == null || m.state == Machine.RUNS) {
                return;
            }
            stopped++;
            while (m != null && m.state == Machine.STARVED) {
                m = m.ahead;
            }
            if (m == null) {
                laidOn[THE_SUPPLY]++;
            } else if (m.state == Machine.RUNS) {
                laidOn[THE_PACE]++;
            } else if (within(m.number, 0, MACHINES - 1)) {
                laidOn[m.number]++;
            }
        }

        int allRejected() {
            int sum = 0;
            for (Machine m = last(); m != null; m = m.ahead) {
                sum += m.rejected;
            }
            return sum;
        }

        int allSampled() {
            int sum = 0;
            for (Machine m = last(); m != null; m = m.ahead) {
                sum += m.sampled;
            }
            return sum;
        }

        int allOnLine() {
            int sum = 0;
            for (Machine m = last(); m != null; m = m.ahead) {
                sum += m.unitsInside() + m.inGap;
            }
            return sum;
        }
    }

    /** The tree: codes of units, the cases (boxes) they are in, the pallets these are on. */
    private static final class Codes {
        static final int CODES = 200, BOXES = 30, PALLETS = 6;

        private int count;
        final int[] boxOf = new int[CODES];
        final int[] lotOf = new int[CODES];
        final int[] weightOf = new int[CODES];
        final int[] unitsIn = new int[BOXES];
        final boolean[] boxClosed = new boolean[BOXES];
        final int[] palletOf = new int[BOXES];
        private final int[] boxesOn = new int[PALLETS];
        private final boolean[] palletClosed = new boolean[PALLETS];

        Codes() {
            Arrays.fill(palletOf, NONE);
        }

        void add(int lot) {
            if (count >= CODES) {
                return;
            }
            boxOf[count] = NONE;
            lotOf[count] = lot;
            weightOf[count] = NONE;
            count++;
        }

        boolean known(int code) {
            return within(code, 0, count - 1);
        }

        int packInto(int code, int box, int size) {
            if (!known(code) || boxOf[code] != NONE || boxClosed[box]) {
                return NO;
            }
            if (unitsIn[box] >= size) {
                return FULL;
            }
            boxOf[code] = box;
            unitsIn[box]++;
            return unitsIn[box];
        }

        int closeBox(int box, int size) {
            if (boxClosed[box] || unitsIn[box] != size) {
                return NO;
            }
            boxClosed[box] = true;
            return 0;
        }

        /** Closes a case that lacks one unit, with the one code that can have been lost. */
        int closeWithLost(int box, int size) {
            if (boxClosed[box] || unitsIn[box] != size - 1) {
                return NO;
            }
            int lost = onlyLooseIn(leastIn(box), greatestIn(box));
            if (!known(lost)) {
                return NO;
            }
            boxOf[lost] = box;
            unitsIn[box]++;
            boxClosed[box] = true;
            return lost;
        }

        /** The one code from first to last that is in no case; NONE, if there is none or more. */
        private int onlyLooseIn(int first, int last) {
            int found = NONE;
            for (int i = Math.max(first, 0); i < count && i <= last; i++) {
                if (boxOf[i] == NONE) {
                    if (found != NONE) {
                        return NONE;
                    }
                    found = i;
                }
            }
            return found;
        }

        int stackOn(int box, int pallet, int high) {
            if (!boxClosed[box] || palletOf[box] != NONE || palletClosed[pallet]) {
                return NO;
            }
            if (boxesOn[pallet] >= high) {
                return FULL;
            }
            palletOf[box] = pallet;
            boxesOn[pallet]++;
            return boxesOn[pallet];
        }

        int sealPallet(int pallet) {
            if (palletClosed[pallet] || boxesOn[pallet] == 0) {
                return NO;
            }
            palletClosed[pallet] = true;
            return boxesOn[pallet];
        }

        int breakBox(int box) {
            if (palletOf[box] != NONE) {
                return NO;
            }
            int had = unitsIn[box];
            for (int i = 0; i < count; i++) {
                if (boxOf[i] == box) {
                    boxOf[i] = NONE;
                }
            }
            unitsIn[box] = 0;
            boxClosed[box] = false;
            return had;
        }

        int breakPallet(int pallet) {
            int had = boxesOn[pallet];
            for (int i = 0; i < BOXES; i++) {
                if (palletOf[i] == pallet) {
                    palletOf[i] = NONE;
                }
            }
            boxesOn[pallet] = 0;
            palletClosed[pallet] = false;
            return had;
        }

        int fullestCase() {
            int most = 0;
            for (int i = 0; i < BOXES; i++) {
                most = Math.max(most, unitsIn[i]);
            }
            return most;
        }

        int fullestPallet() {
            int most = 0;
            for (int i = 0; i < PALLETS; i++) {
                most = Math.max(most, boxesOn[i]);
            }
            return most;
        }

        int palletOfCode(int code) {
            int box = boxOf[code];
            return isBox(box) ? palletOf[box] : NONE;
        }

        int leastIn(int box) {
            for (int i = 0; i < count; i++) {
                if (boxOf[i] == box) {
                    return i;
                }
            }
            return NONE;
        }

        int greatestIn(int box) {
            for (int i = count - 1; i >= 0; i--) {
                if (boxOf[i] == box) {
                    return i;
                }
            }
            return NONE;
        }

        int boxesWith(int lot) {
            int bits = 0;
            for (int i = 0; i < count; i++) {
                if (lotOf[i] == lot && isBox(boxOf[i])) {
                    bits |= 1 << boxOf[i];
                }
            }
            return bits;
        }

        int palletsWith(int lot) {
            int bits = 0;
            for (int i = 0; i < count; i++) {
                int pallet = palletOfCode(i);
                if (lotOf[i] == lot && isPallet(pallet)) {
                    bits |= 1 << pallet;
                }
            }
            return bits;
        }

        int looseOf(int lot) {
            int loose = 0;
            for (int i = 0; i < count; i++) {
                if (lotOf[i] == lot && boxOf[i] == NONE) {
                    loose++;
                }
            }
            return loose;
        }

        int putWeight(int code, int weight) {
            int was = weightOf[code];
            weightOf[code] = weight;
            return was;
        }

        int givenAway(int unit) {
            int sum = 0;
            for (int i = 0; i < count; i++) {
                // A code that is not weighed has NONE, which is below every unit.
                sum += Math.max(weightOf[i] - unit, 0);
            }
            return sum;
        }

        int lighterThan(int least) {
            int light = 0;
            for (int i = 0; i < count; i++) {
                if (weightOf[i] != NONE && weightOf[i] < least) {
                    light++;
                }
            }
            return light;
        }

        int weighed() {
            int told = 0;
            for (int i = 0; i < count; i++) {
                if (weightOf[i] != NONE) {
                    told++;
                }
            }
            return told;
        }
    }

    /** The latest layer: the most cases it has room for, and the place of each. */
    private static final class Plan {
        static final int SIDE = 12, NUMBERS = 4;
        private static final int ROW = SIDE + 1, SQUARES = SIDE * SIDE;

        boolean made;
        private int x, y, a, b;
        // The narrow side of a case. A pinwheel with an empty part at its rim is never better than
        // cuts are, so only those are tried that leave each such part as wide as this.
        private int narrow;
        private final int[] most = new int[ROW * ROW];
        private final int[] place = new int[NUMBERS * SQUARES];
        private int places;
        // The parts that are still to be laid; the one that comes next lies on top.
        private final int[] part = new int[NUMBERS * SQUARES];
        private int parts;
        // Whose each square is: the number of a place and one, or 0.
        private final int[] owner = new int[SQUARES];

        int make(int x, int y, int a, int b) {
            this.x = x;
            this.y = y;
            this.a = a;
            this.b = b;
            narrow = Math.min(a, b);
            made = true;
            findMost();
            layCases();
            return mostOf(x, y);
        }

        int numberOf(int i, int what) {
            return i < places ? place[NUMBERS * i + what] : NONE;
        }

        private void findMost() {
            for (int w = 1; w <= x; w++) {
                for (int h = 1; h <= y; h++) {
                    most[w * ROW + h] = mostIn(w, h);
                }
            }
        }

        private int mostOf(int w, int h) {
            return w >= 0 && w <= SIDE && h >= 0 && h <= SIDE ? most[w * ROW + h] : 0;
        }

        /** MOST of a part, when it is known of every smaller one. */
        private int mostIn(int w, int h) {
            int best = fits(a, b, w, h) || fits(b, a, w, h) ? 1 : 0;
            for (int cut = 1; cut < w; cut++) {
                best = Math.max(best, byUprightCut(w, h, cut));
            }
            for (int cut = 1; cut < h; cut++) {
                best = Math.max(best, byLevelCut(w, h, cut));
            }
            // Pinwheels are many: none is tried where the squares do not do for one case more.
            if ((best + 1) * a * b > w * h) {
                return best;
            }
            return Math.max(best, mostByPinwheel(w, h));
        }

        private static boolean fits(int along, int up, int w, int h) {
            return along <= w && up <= h;
        }

        private int byUprightCut(int w, int h, int cut) {
            return mostOf(cut, h) + mostOf(w - cut, h);
        }

        private int byLevelCut(int w, int h, int cut) {
            return mostOf(w, cut) + mostOf(w, h - cut);
        }

        private int byPinwheel(int w, int h, int x1, int x2, int y1, int y2) {
            return mostOf(x1, y2) + mostOf(w - x1, y1) + mostOf(w - x2, h - y1)
                    + mostOf(x2, h - y2) + mostOf(x2 - x1, y2 - y1);
        }

        private int mostByPinwheel(int w, int h) {
            int best = 0;
            for (int x1 = narrow; x1 < w - narrow; x1++) {
                for (int x2 = x1 + 1; x2 <= w - narrow; x2++) {
                    for (int y1 = narrow; y1 < h - narrow; y1++) {
                        for (int y2 = y1 + 1; y2 <= h - narrow; y2++) {
                            best = Math.max(best, byPinwheel(w, h, x1, x2, y1, y2));
                        }
                    }
                }
            }
            return best;
        }

        private void layCases() {
            places = 0;
            parts = 0;
            putPart(0, 0, x, y);
            // Parts that are cut no more have a square each at least, and there are more of them
            // than of those that are cut.
            for (int n = 0; n < 2 * SQUARES && parts > 0; n++) {
                parts--;
                int at = NUMBERS * parts;
                layPart(part[at], part[at + 1], part[at + 2], part[at + 3]);
            }
        }

        private void putPart(int left, int low, int w, int h) {
            if (parts >= SQUARES) {
                return;
            }
            int at = NUMBERS * parts;
            part[at] = left;
            part[at + 1] = low;
            part[at + 2] = w;
            part[at + 3] = h;
            parts++;
        }

        private void layPart(int left, int low, int w, int h) {
            int room = mostOf(w, h);
            if (room == 1) {
                layCase(left, low, fits(a, b, w, h));
            } else if (room > 1 && !cutUpright(left, low, w, h) && !cutLevel(left, low, w, h)) {
                cutPinwheel(left, low, w, h);
            }
        }

        private void layCase(int left, int low, boolean along) {
            if (places >= SQUARES) {
                return;
            }
            int at = NUMBERS * places;
            place[at] = left;
            place[at + 1] = low;
            place[at + 2] = along ? a : b;
            place[at + 3] = along ? b : a;
            places++;
        }

        // The cuts put the last part first, so that the first one is laid next.

        private boolean cutUpright(int left, int low, int w, int h) {
            for (int cut = 1; cut < w; cut++) {
                if (byUprightCut(w, h, cut) == mostOf(w, h)) {
                    putPart(left + cut, low, w - cut, h);
                    putPart(left, low, cut, h);
                    return true;
                }
            }
            return false;
        }

        private boolean cutLevel(int left, int low, int w, int h) {
            for (int cut = 1; cut < h; cut++) {
                if (byLevelCut(w, h, cut) == mostOf(w, h)) {
                    putPart(left, low + cut, w, h - cut);
                    putPart(left, low, w, cut);
                    return true;
                }
            }
            return false;
        }

        private void cutPinwheel(int left, int low, int w, int h) {
            for (int x1 = narrow; x1 < w - narrow; x1++) {
                for (int x2 = x1 + 1; x2 <= w - narrow; x2++) {
                    for (int y1 = narrow; y1 < h - narrow; y1++) {
                        for (int y2 = y1 + 1; y2 <= h - narrow; y2++) {
                            if (byPinwheel(w, h, x1, x2, y1, y2) == mostOf(w, h)) {
                                putPart(left + x1, low + y1, x2 - x1, y2 - y1);
                                putPart(left, low + y2, x2, h - y2);
                                putPart(left + x2, low + y1, w - x2, h - y1);
                                putPart(left + x1, low, w - x1, y1);
                                putPart(left, low, x1, y2);
                                return;
                            }
                        }
                    }
                }
            }
        }

        /** How many cases lie on two or more of the same layer turned half round. */
        int holding() {
            markOwners();
            int sum = 0;
            for (int i = 0; i < places; i++) {
                if (liesOnTwo(i)) {
                    sum++;
                }
            }
            return sum;
        }

        private void markOwners() {
            Arrays.fill(owner, 0);
            for (int i = 0; i < places; i++) {
                int left = numberOf(i, 0);
                int low = numberOf(i, 1);
                for (int h = low; h < low + numberOf(i, 3); h++) {
                    for (int w = left; w < left + numberOf(i, 2); w++) {
                        if (isSquare(w, h)) {
                            owner[h * SIDE + w] = i + 1;
                        }
                    }
                }
            }
        }

        private boolean liesOnTwo(int i) {
            int left = numberOf(i, 0);
            int low = numberOf(i, 1);
            int first = 0;
            for (int h = low; h < low + numberOf(i, 3); h++) {
                for (int w = left; w < left + numberOf(i, 2); w++) {
                    int beneath = ownerOf(x - 1 - w, y - 1 - h);
                    if (first == 0) {
                        first = beneath;
                    } else if (beneath != 0 && beneath != first) {
                        return true;
                    }
                }
            }
            return false;
        }

        private int ownerOf(int w, int h) {
            return isSquare(w, h) ? owner[h * SIDE + w] : 0;
        }

        private static boolean isSquare(int w, int h) {
            return within(w, 0, SIDE - 1) && within(h, 0, SIDE - 1);
        }
    }

    /** Change-overs from kind to kind, and the shortest order of a set of kinds. */
    private static final class Tours {
        static final int KINDS = 6, SETS = 1 << KINDS;

        private final int[] minutesOf = new int[KINDS * KINDS];
        private final int[] stainOf = new int[KINDS];
        // Of the kinds that are gone through and the one that is on: what the others still take.
        private final int[] rest = new int[SETS * KINDS];
        private int wanted;
        private int cleaning;

        Tours() {
            Arrays.fill(minutesOf, 30);
        }

        int putChange(int from, int to, int v) {
            int was = minutesOf[from * KINDS + to];
            minutesOf[from * KINDS + to] = v;
            return was;
        }

        int putStain(int kind, int v) {
            int was = stainOf[kind];
            stainOf[kind] = v;
            return was;
        }

        static boolean isIn(int set, int kind) {
            return (set >> kind & 1) != 0;
        }

        /** Finds the rests of all tours of a set: greater sets of kinds gone through come first. */
        void find(int set, int cleaning) {
            this.wanted = set;
            this.cleaning = cleaning;
            for (int gone = SETS - 1; gone > 0; gone--) {
                for (int kind = 0; kind < KINDS; kind++) {
                    if ((gone & ~set) == 0 && isIn(gone, kind)) {
                        rest[gone * KINDS + kind] = leastRest(gone, kind);
                    }
                }
            }
        }

        int least(int from) {
            return restOf(1 << from, from);
        }

        int kindAt(int from, int i) {
            if (i >= KINDS) {
                return NONE;
            }
            int kind = from;
            int gone = 1 << from;
            for (int step = 0; step < i; step++) {
                kind = nextKind(gone, kind);
                if (kind == NONE) {
                    return NONE;
                }
                gone |= 1 << kind;
            }
            return kind;
        }

        private int leastRest(int gone, int kind) {
            int next = nextKind(gone, kind);
            return next == NONE ? 0 : minutesBy(gone, kind, next);
        }

        /** The lowest kind that the tour may go on to with least minutes; NONE, if all are gone through. */
        private int nextKind(int gone, int kind) {
            int best = NONE;
            for (int next = 0; next < KINDS; next++) {
                if (isIn(wanted & ~gone, next)
                        && (best == NONE || minutesBy(gone, kind, next) < minutesBy(gone, kind, best))) {
                    best = next;
                }
            }
            return best;
        }

        private int minutesBy(int gone, int kind, int next) {
            return minutes(kind, next) + restOf(gone | 1 << next, next);
        }

        private int restOf(int gone, int kind) {
            return within(gone, 0, SETS - 1) && within(kind, 0, KINDS - 1) ? rest[gone * KINDS + kind] : 0;
        }

        private int minutes(int from, int to) {
            if (!isKind(from) || !isKind(to)) {
                return 0;
            }
            int clean = stainOf[from] > stainOf[to] ? cleaning : 0;
            return minutesOf[from * KINDS + to] + clean;
        }
    }
}
