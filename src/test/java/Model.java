import java.util.ArrayDeque;
import java.util.ArrayList;
import java.util.Arrays;
import java.util.HashMap;
import java.util.List;
import java.util.Map;
import java.util.TreeMap;
import java.util.TreeSet;

/**
 * A second writing of the document, in its own way and without a look at the room or the speed:
 * units, cases and pallets are objects in lists, MOST is asked top down, tours are all gone through.
 */
final class Model {
    private static final int BAD = -1, NO = -2, FULL = -3, NONE = -4;

    private static final class Station {
        int pace = 1, r, s, gapSize = 2;
        int gap;
        int done = -1; // ticks done on the unit, -1: none is at work
        boolean held;
        int finished, rejected, sampled, ran;
        int state = NONE;
        final List<Integer> openRejects = new ArrayList<>();
        final List<int[]> spans = new ArrayList<>();
    }

    private static final class Unit {
        final int lot;
        int weight = NONE;
        int box = NONE;

        Unit(int lot) {
            this.lot = lot;
        }
    }

    private static final class Box {
        final TreeSet<Integer> units = new TreeSet<>();
        boolean closed;
        int pallet = NONE;
    }

    private static final class Pallet {
        final TreeSet<Integer> boxes = new TreeSet<>();
        boolean closed;
    }

    private List<Station> line = new ArrayList<>();
    private int tick, supply, taken, good, idle, lot;
    private final int[] causes = new int[8];
    private final List<Unit> units = new ArrayList<>();
    private final Box[] boxes = new Box[30];
    private final Pallet[] pallets = new Pallet[6];
    private int size = 4, high = 6, unit = 100, tare = 50, tolerance = 5, cleaning = 60;
    private List<int[]> places;
    private int layerX, layerY;
    private final int[][] changes = new int[6][6];
    private final int[] stains = new int[6];

    Model() {
        line(2);
        for (int i = 0; i < 30; i++) {
            boxes[i] = new Box();
        }
        for (int i = 0; i < 6; i++) {
            pallets[i] = new Pallet();
            Arrays.fill(changes[i], 30);
        }
    }

    private static boolean not(int v, int from, int to) {
        return v < from || v > to;
    }

    int line(int m) {
        if (not(m, 2, 6)) {
            return BAD;
        }
        line = new ArrayList<>();
        while (line.size() < m) {
            line.add(new Station());
        }
        tick = supply = taken = good = idle = 0;
        Arrays.fill(causes, 0);
        return m;
    }

    private boolean noStation(int i) {
        return not(i, 0, line.size() - 1);
    }

    int set(int machine, int what, int v) {
        if (noStation(machine)) {
            return BAD;
        }
        Station st = line.get(machine);
        int was;
        if (what == 0) {
            if (not(v, 1, 5)) {
                return BAD;
            }
            was = st.pace;
            st.pace = v;
        } else if (what == 1) {
            if (not(v, 0, 99)) {
                return BAD;
            }
            was = st.r;
            st.r = v;
        } else if (what == 2) {
            if (not(v, 0, 99)) {
                return BAD;
            }
            was = st.s;
            st.s = v;
        } else if (what == 3) {
            if (machine == line.size() - 1 || not(v, 1, 20)) {
                return BAD;
            }
            if (st.gap > v) {
                return NO;
            }
            was = st.gapSize;
            st.gapSize = v;
        } else {
            return BAD;
        }
        return was;
    }

    int fault(int machine, int a, int b) {
        if (noStation(machine) || not(a, 0, 9999) || not(b, 0, 9999) || a > b) {
            return BAD;
        }
        if (a < tick) {
            return NO;
        }
        int all = 0;
        for (Station st : line) {
            all += st.spans.size();
        }
        if (all == 8) {
            return FULL;
        }
        line.get(machine).spans.add(new int[] {a, b});
        return all + 1;
    }

    int supply(int n) {
        if (not(n, 1, 1000)) {
            return BAD;
        }
        if (supply + n > 100000) {
            return FULL;
        }
        return supply += n;
    }

    int lot(int v) {
        if (not(v, 0, 15)) {
            return BAD;
        }
        int was = lot;
        lot = v;
        return was;
    }

    int ticks(int n) {
        if (not(n, 1, 500)) {
            return BAD;
        }
        if (tick + n > 10000) {
            return FULL;
        }
        for (int end = tick + n; tick < end; tick++) {
            oneTick();
        }
        return tick;
    }

    private void oneTick() {
        for (int i = line.size() - 1; i >= 0; i--) {
            Station st = line.get(i);
            st.state = stateAt(i, st);
            st.ran += st.state == 3 ? 1 : 0;
        }
        int i = line.size() - 1;
        if (line.get(i).state == 3) {
            return;
        }
        idle++;
        while (i >= 0 && line.get(i).state == 4) {
            i--;
        }
        causes[i < 0 ? 7 : line.get(i).state == 3 ? 6 : i]++;
    }

    private int stateAt(int i, Station st) {
        for (int[] span : st.spans) {
            if (span[0] <= tick && tick <= span[1]) {
                return 0;
            }
        }
        for (int made : st.openRejects) {
            if (made <= tick - 3) {
                return 1;
            }
        }
        if (st.held) {
            if (st.gap == st.gapSize) {
                return 2;
            }
            st.gap++;
            st.held = false;
        }
        if (st.done < 0) {
            if (i == 0 && supply > 0) {
                supply--;
                taken++;
            } else if (i > 0 && line.get(i - 1).gap > 0) {
                line.get(i - 1).gap--;
            } else {
                return 4;
            }
            st.done = 0;
        }
        st.done++;
        if (st.done >= st.pace) {
            st.done = -1;
            finish(i, st);
        }
        return 3;
    }

    private void finish(int i, Station st) {
        int number = ++st.finished;
        if (st.r > 0 && number % st.r == 0) {
            st.rejected++;
            st.openRejects.add(tick);
        } else if (st.s > 0 && number % st.s == 0) {
            st.sampled++;
        } else if (i < line.size() - 1) {
            st.held = true;
        } else {
            good++;
            if (units.size() < 200) {
                units.add(new Unit(lot));
            }
        }
    }

    int confirm(int machine) {
        if (noStation(machine)) {
            return BAD;
        }
        int were = line.get(machine).openRejects.size();
        line.get(machine).openRejects.clear();
        return were;
    }

    int about(int machine, int what) {
        if (noStation(machine) || not(what, 0, 7)) {
            return BAD;
        }
        Station st = line.get(machine);
        int[] all = {st.state, st.finished, st.rejected, st.sampled, st.held || st.done >= 0 ? 1 : 0, st.gap,
            st.openRejects.size(), st.ran};
        return all[what];
    }

    int cause(int what) {
        return not(what, 0, 7) ? BAD : causes[what];
    }

    int book(int what) {
        if (not(what, 0, 7)) {
            return BAD;
        }
        int rejected = 0;
        int sampled = 0;
        for (Station st : line) {
            rejected += st.rejected;
            sampled += st.sampled;
        }
        int[] all = {tick, supply, taken, good, rejected, sampled, taken - good - rejected - sampled, idle};
        return all[what];
    }

    int weightDue() {
        return size * unit + tare;
    }

    int rule(int what, int v) {
        int was;
        switch (what) {
            case 0:
                if (not(v, 1, 12)) {
                    return BAD;
                }
                for (Box each : boxes) {
                    if (each.units.size() > v) {
                        return NO;
                    }
                }
                was = size;
                size = v;
                return was;
            case 1:
                if (not(v, 1, 20)) {
                    return BAD;
                }
                for (Pallet each : pallets) {
                    if (each.boxes.size() > v) {
                        return NO;
                    }
                }
                was = high;
                high = v;
                return was;
            case 2:
                was = unit;
                unit = not(v, 0, 10000) ? was : v;
                return not(v, 0, 10000) ? BAD : was;
            case 3:
                was = tare;
                tare = not(v, 0, 10000) ? was : v;
                return not(v, 0, 10000) ? BAD : was;
            case 4:
                was = tolerance;
                tolerance = not(v, 0, 1000) ? was : v;
                return not(v, 0, 1000) ? BAD : was;
            case 5:
                was = cleaning;
                cleaning = not(v, 0, 500) ? was : v;
                return not(v, 0, 500) ? BAD : was;
            default:
                return BAD;
        }
    }

    int pack(int code, int box) {
        if (not(code, 0, 199) || not(box, 0, 29)) {
            return BAD;
        }
        if (code >= units.size() || units.get(code).box != NONE || boxes[box].closed) {
            return NO;
        }
        if (boxes[box].units.size() >= size) {
            return FULL;
        }
        put(code, box);
        return boxes[box].units.size();
    }

    private void put(int code, int box) {
        units.get(code).box = box;
        boxes[box].units.add(code);
    }

    int close(int box) {
        if (not(box, 0, 29)) {
            return BAD;
        }
        if (boxes[box].closed || boxes[box].units.size() != size) {
            return NO;
        }
        boxes[box].closed = true;
        return 0;
    }

    int weigh(int box, int weight) {
        if (not(box, 0, 29) || not(weight, 0, 1000000)) {
            return BAD;
        }
        Box it = boxes[box];
        if (it.closed || it.units.size() + 1 != size || it.units.isEmpty()) {
            return NO;
        }
        int due = size * unit + tare;
        if (weight > due + tolerance || weight < due - tolerance) {
            return NO;
        }
        List<Integer> lost = new ArrayList<>();
        for (int code = it.units.first() + 1; code < it.units.last(); code++) {
            if (units.get(code).box == NONE) {
                lost.add(code);
            }
        }
        if (lost.size() != 1) {
            return NO;
        }
        put(lost.get(0), box);
        it.closed = true;
        return lost.get(0);
    }

    int stack(int box, int pallet) {
        if (not(box, 0, 29) || not(pallet, 0, 5)) {
            return BAD;
        }
        if (!boxes[box].closed || boxes[box].pallet != NONE || pallets[pallet].closed) {
            return NO;
        }
        if (pallets[pallet].boxes.size() >= high) {
            return FULL;
        }
        boxes[box].pallet = pallet;
        pallets[pallet].boxes.add(box);
        return pallets[pallet].boxes.size();
    }

    int seal(int pallet) {
        if (not(pallet, 0, 5)) {
            return BAD;
        }
        if (pallets[pallet].closed || pallets[pallet].boxes.isEmpty()) {
            return NO;
        }
        pallets[pallet].closed = true;
        return pallets[pallet].boxes.size();
    }

    int breakUp(int what, int i) {
        if (not(what, 0, 1) || not(i, 0, what == 0 ? 29 : 5)) {
            return BAD;
        }
        if (what == 0) {
            if (boxes[i].pallet != NONE) {
                return NO;
            }
            int had = boxes[i].units.size();
            for (int code : boxes[i].units) {
                units.get(code).box = NONE;
            }
            boxes[i] = new Box();
            return had;
        }
        int had = pallets[i].boxes.size();
        for (int box : pallets[i].boxes) {
            boxes[box].pallet = NONE;
        }
        pallets[i] = new Pallet();
        return had;
    }

    int code(int code, int what) {
        if (not(code, 0, units.size() - 1) || not(what, 0, 3)) {
            return BAD;
        }
        Unit it = units.get(code);
        int[] all = {it.box, it.box == NONE ? NONE : boxes[it.box].pallet, it.lot, it.weight};
        return all[what];
    }

    int box(int box, int what) {
        if (not(box, 0, 29) || not(what, 0, 4)) {
            return BAD;
        }
        Box it = boxes[box];
        boolean empty = it.units.isEmpty();
        int[] all = {it.units.size(), it.closed ? 1 : 0, it.pallet, empty ? NONE : it.units.first(),
            empty ? NONE : it.units.last()};
        return all[what];
    }

    int recall(int recalled, int what) {
        if (not(recalled, 0, 15) || not(what, 0, 2)) {
            return BAD;
        }
        int inBoxes = 0;
        int onPallets = 0;
        int loose = 0;
        for (int box = 0; box < 30; box++) {
            for (int code : boxes[box].units) {
                if (units.get(code).lot == recalled) {
                    inBoxes |= 1 << box;
                    onPallets |= boxes[box].pallet == NONE ? 0 : 1 << boxes[box].pallet;
                }
            }
        }
        for (Unit it : units) {
            loose += it.lot == recalled && it.box == NONE ? 1 : 0;
        }
        return what == 0 ? inBoxes : what == 1 ? onPallets : loose;
    }

    private static final Map<Integer, Map<Integer, Integer>> KNOWN = new HashMap<>();

    private static int most(int x, int y, int a, int b) {
        Map<Integer, Integer> known = KNOWN.computeIfAbsent(a * 100 + b, key -> new TreeMap<>());
        Integer before = known.get(x * 100 + y);
        if (before != null) {
            return before;
        }
        int best = a <= x && b <= y || b <= x && a <= y ? 1 : 0;
        for (int cut = 1; cut < x; cut++) {
            best = Math.max(best, most(cut, y, a, b) + most(x - cut, y, a, b));
        }
        for (int cut = 1; cut < y; cut++) {
            best = Math.max(best, most(x, cut, a, b) + most(x, y - cut, a, b));
        }
        for (int x1 = 1; x1 < x; x1++) {
            for (int x2 = x1 + 1; x2 < x; x2++) {
                for (int y1 = 1; y1 < y; y1++) {
                    for (int y2 = y1 + 1; y2 < y; y2++) {
                        int sum = 0;
                        for (int[] part : wheel(new int[] {0, 0, x, y}, x1, x2, y1, y2)) {
                            sum += most(part[2], part[3], a, b);
                        }
                        best = Math.max(best, sum);
                    }
                }
            }
        }
        known.put(x * 100 + y, best);
        return best;
    }

    /** The five parts as corners: from the lower left to the upper right of each. */
    private static int[][] wheel(int[] p, int x1, int x2, int y1, int y2) {
        int[][] corners = {
            {0, 0, x1, y2}, {x1, 0, p[2], y1}, {x2, y1, p[2], p[3]}, {0, y2, x2, p[3]}, {x1, y1, x2, y2}};
        int[][] parts = new int[5][];
        for (int i = 0; i < 5; i++) {
            int[] c = corners[i];
            parts[i] = new int[] {p[0] + c[0], p[1] + c[1], c[2] - c[0], c[3] - c[1]};
        }
        return parts;
    }

    private static int[][] split(int[] p, int a, int b) {
        int goal = most(p[2], p[3], a, b);
        for (int cut = 1; cut < p[2]; cut++) {
            if (most(cut, p[3], a, b) + most(p[2] - cut, p[3], a, b) == goal) {
                return new int[][] {{p[0], p[1], cut, p[3]}, {p[0] + cut, p[1], p[2] - cut, p[3]}};
            }
        }
        for (int cut = 1; cut < p[3]; cut++) {
            if (most(p[2], cut, a, b) + most(p[2], p[3] - cut, a, b) == goal) {
                return new int[][] {{p[0], p[1], p[2], cut}, {p[0], p[1] + cut, p[2], p[3] - cut}};
            }
        }
        for (int x1 = 1; x1 < p[2]; x1++) {
            for (int x2 = x1 + 1; x2 < p[2]; x2++) {
                for (int y1 = 1; y1 < p[3]; y1++) {
                    for (int y2 = y1 + 1; y2 < p[3]; y2++) {
                        int sum = 0;
                        int[][] parts = wheel(p, x1, x2, y1, y2);
                        for (int[] part : parts) {
                            sum += most(part[2], part[3], a, b);
                        }
                        if (sum == goal) {
                            return parts;
                        }
                    }
                }
            }
        }
        return new int[0][];
    }

    int layer(int x, int y, int a, int b) {
        if (not(x, 1, 12) || not(y, 1, 12) || not(a, 1, 12) || not(b, 1, 12)) {
            return BAD;
        }
        layerX = x;
        layerY = y;
        places = new ArrayList<>();
        ArrayDeque<int[]> parts = new ArrayDeque<>();
        parts.push(new int[] {0, 0, x, y});
        while (!parts.isEmpty()) {
            int[] p = parts.pop();
            int room = most(p[2], p[3], a, b);
            if (room == 1) {
                boolean along = a <= p[2] && b <= p[3];
                places.add(new int[] {p[0], p[1], along ? a : b, along ? b : a});
            } else if (room > 1) {
                int[][] split = split(p, a, b);
                for (int i = split.length - 1; i >= 0; i--) {
                    parts.push(split[i]);
                }
            }
        }
        return most(x, y, a, b);
    }

    int planned(int i, int what) {
        if (i < 0 || not(what, 0, 3)) {
            return BAD;
        }
        return places == null ? NO : i < places.size() ? places.get(i)[what] : NONE;
    }

    int holds() {
        if (places == null) {
            return NO;
        }
        int sum = 0;
        for (int[] p : places) {
            int beneath = 0;
            for (int[] q : places) {
                int qx = layerX - q[0] - q[2];
                int qy = layerY - q[1] - q[3];
                boolean over = p[0] < qx + q[2] && qx < p[0] + p[2] && p[1] < qy + q[3] && qy < p[1] + p[3];
                beneath += over ? 1 : 0;
            }
            sum += beneath >= 2 ? 1 : 0;
        }
        return sum;
    }

    int change(int from, int to, int v) {
        if (not(from, 0, 5) || not(to, 0, 5) || from == to || not(v, 0, 500)) {
            return BAD;
        }
        int was = changes[from][to];
        changes[from][to] = v;
        return was;
    }

    int stain(int kind, int v) {
        if (not(kind, 0, 5) || not(v, 0, 3)) {
            return BAD;
        }
        int was = stains[kind];
        stains[kind] = v;
        return was;
    }

    int tour(int set, int from, int i) {
        if (not(set, 0, 63) || not(from, 0, 5) || (set & 1 << from) == 0 || i < -1) {
            return BAD;
        }
        List<Integer> way = new ArrayList<>();
        way.add(from);
        bestWay = null;
        allWays(way, set & ~(1 << from), 0);
        return i == -1 ? bestMinutes : i < bestWay.size() ? bestWay.get(i) : NONE;
    }

    private List<Integer> bestWay;
    private int bestMinutes;

    private void allWays(List<Integer> way, int left, int minutes) {
        if (left == 0 && (bestWay == null || minutes < bestMinutes)) {
            bestWay = new ArrayList<>(way);
            bestMinutes = minutes;
        }
        int last = way.get(way.size() - 1);
        for (int next = 0; next < 6; next++) {
            if ((left & 1 << next) != 0) {
                way.add(next);
                int clean = stains[last] > stains[next] ? cleaning : 0;
                allWays(way, left & ~(1 << next), minutes + changes[last][next] + clean);
                way.remove(way.size() - 1);
            }
        }
    }

    int scale(int code, int weight) {
        if (not(code, 0, units.size() - 1) || not(weight, 0, 10000)) {
            return BAD;
        }
        int was = units.get(code).weight;
        units.get(code).weight = weight;
        return was;
    }

    int scales(int what) {
        if (not(what, 0, 2)) {
            return BAD;
        }
        int[] sums = new int[3];
        for (Unit it : units) {
            if (it.weight != NONE) {
                sums[0] += it.weight > unit ? it.weight - unit : 0;
                sums[1] += it.weight < unit - tolerance ? 1 : 0;
                sums[2]++;
            }
        }
        return sums[what];
    }
}
