import java.util.ArrayDeque;
import java.util.ArrayList;
import java.util.Arrays;
import java.util.List;
import java.util.Random;

/**
 * Long runs of calls, each answer against a second, plain reading of the document: what is foretold is done
 * there on a copy, minute by minute, and every way is tried where the document says "the fewest" or "the most".
 */
public final class ModelTest {
    private static final int NONE = -1000000, BAD = -1000001, STATE = -1000002, FULL = -1000003;
    private static final int NOWHERE = 99;
    private static final String SORTS = "?wkdhm";
    private static final int[] THICK = {0, 8, 16, 4, 6, 10}, NEED = {0, 40, 80, 20, 15, 50}, LIMIT = {0, 90, 120, 45, 70, 100};

    private static final class Item implements Cloneable {
        int kind, cell, core, below;
        int[] skin = new int[2];
        boolean burnt;

        Item twin() {
            Item t = new Item();
            t.kind = kind;
            t.cell = cell;
            t.core = core;
            t.below = below;
            t.skin = skin.clone();
            t.burnt = burnt;
            return t;
        }

        boolean through() {
            return core >= NEED[kind];
        }

        boolean good() {
            return through() && !burnt;
        }
    }

    private static final class Plot {
        int sink, wind, minute;
        List<int[]> coals = new ArrayList<>();
        List<Item> items = new ArrayList<>();
        List<int[]> guests = new ArrayList<>();

        Plot twin() {
            Plot p = new Plot();
            p.sink = sink;
            p.wind = wind;
            p.minute = minute;
            for (int[] c : coals) {
                p.coals.add(c.clone());
            }
            for (Item i : items) {
                p.items.add(i.twin());
            }
            for (int[] g : guests) {
                p.guests.add(g.clone());
            }
            return p;
        }

        Item in(int cell) {
            for (Item i : items) {
                if (i.cell == cell && cell < 12) {
                    return i;
                }
            }
            return null;
        }

        int heat(int cell) {
            int x = cell % 4, y = cell / 4, sum = 0;
            for (int[] c : coals) {
                int cx = c[0] % 4, cy = c[0] / 4;
                if (c[2] > 0) {
                    continue;
                }
                if (cx == x && cy == y) {
                    sum += c[1];
                }
                if (cx == x && (cy == y + 1 || cy == y - 1) || cy == y && (cx == x + 1 || cx == x - 1)) {
                    sum += c[1] / 2;
                }
            }
            Item i = in(cell);
            if (sum > 0 && i != null && i.kind <= 3 && i.skin[i.below] >= 10) {
                sum += 3;
            }
            return x == 0 ? sum + wind : sum;
        }

        void minute() {
            int[] heats = new int[12];
            for (int c = 0; c < 12; c++) {
                heats[c] = heat(c);
            }
            for (Item i : items) {
                if (i.cell < 12) {
                    int other = 1 - i.below;
                    i.skin[i.below] += heats[i.cell];
                    i.skin[other] = Math.max(i.skin[other] - 2, 0);
                    i.core += (i.skin[0] + i.skin[1]) / THICK[i.kind];
                } else if (i.cell == 12) {
                    i.skin[0] = Math.max(i.skin[0] - 3, 0);
                    i.skin[1] = Math.max(i.skin[1] - 3, 0);
                }
                if (i.skin[0] > LIMIT[i.kind] || i.skin[1] > LIMIT[i.kind]) {
                    i.burnt = true;
                }
            }
            for (int[] c : coals) {
                if (c[2] > 0) {
                    c[2]--;
                }
            }
            if ((minute + 1) % sink == 0) {
                for (int[] c : coals) {
                    c[1] = Math.max(c[1] - 1, 0);
                }
            }
            minute++;
        }

        Plot after(int n) {
            Plot p = twin();
            for (int k = 0; k < n; k++) {
                p.minute();
            }
            return p;
        }

        int goodOnes() {
            int bits = 0;
            for (int i = 0; i < items.size(); i++) {
                if (items.get(i).good() && items.get(i).cell != NOWHERE) {
                    bits |= 1 << i;
                }
            }
            return bits;
        }
    }

    private static final class Fault extends Exception {
        final int place, number;

        Fault(int place, int number) {
            this.place = place;
            this.number = number;
        }
    }

    /** The text as one string; the tokens are cut off it one by one. */
    private static final class Text {
        final String s;
        int at;

        Text(String s) {
            this.s = s;
        }

        char peek() {
            return at < s.length() ? s.charAt(at) : 0xffff;
        }

        void must(char c) throws Fault {
            if (peek() != c) {
                throw new Fault(at, 1);
            }
            at++;
        }

        int number(int lo, int hi) throws Fault {
            int end = at;
            while (end < s.length() && "0123456789".indexOf(s.charAt(end)) >= 0) {
                end++;
            }
            if (end == at || end - at >= 3) {
                throw new Fault(at, 1);
            }
            int v = Integer.parseInt(s.substring(at, end));
            if (v < lo || v > hi) {
                throw new Fault(at, 2);
            }
            at = end;
            return v;
        }

        int sort() throws Fault {
            int k = SORTS.indexOf(peek());
            if (k < 1) {
                throw new Fault(at, 1);
            }
            at++;
            return k;
        }

        void room(int has, int most) throws Fault {
            if (has == most) {
                throw new Fault(at, 3);
            }
        }

        Plot plot() throws Fault {
            Plot p = new Plot();
            must('g');
            p.sink = number(1, 30);
            must(',');
            p.wind = number(0, 9);
            must(';');
            while (peek() == 'c') {
                room(p.coals.size(), 8);
                at++;
                int cell = number(0, 11);
                must(',');
                int fire = number(1, 30);
                must(';');
                p.coals.add(new int[] {cell, fire, 0});
            }
            while (SORTS.indexOf(peek()) >= 1) {
                room(p.items.size(), 6);
                Item i = new Item();
                i.kind = sort();
                int place = at;
                i.cell = number(0, 12);
                if (p.in(i.cell) != null) {
                    throw new Fault(place, 2);
                }
                must(';');
                p.items.add(i);
            }
            while (peek() == 'e') {
                room(p.guests.size(), 4);
                at++;
                int k = sort();
                int m = number(0, 60);
                must(';');
                p.guests.add(new int[] {k, m, NONE});
            }
            if (at < s.length()) {
                throw new Fault(at, 1);
            }
            return p;
        }
    }

    /** The model: one method for each call, by number and arguments. */
    private static final class Model {
        final int[][] rows = new int[8][];
        final int[] lanes = new int[8];
        StringBuilder tape = new StringBuilder();
        Plot plot;
        final ArrayDeque<Plot> past = new ArrayDeque<>();
        final Plot[] images = new Plot[2];
        List<Integer> trace = new ArrayList<>();
        int fault, status;

        int found(int f) {
            status = f;
            return -1000010 - f;
        }

        int well(int v) {
            status = 0;
            return v;
        }

        Item item(int i) {
            return plot != null && i >= 0 && i < plot.items.size() ? plot.items.get(i) : null;
        }

        boolean out(int v, int lo, int hi) {
            return v < lo || v > hi;
        }

        void keep() {
            past.addLast(plot.twin());
            if (past.size() > 24) {
                past.removeFirst();
            }
        }

        int row(int r, int lane, int n) {
            if (out(r, 0, 7) || out(lane, 0, 2) || n > 40) {
                return BAD;
            }
            if (n < 0) {
                return found(4);
            }
            rows[r] = new int[n];
            lanes[r] = lane;
            return well(n);
        }

        int set(int r, int i, int v) {
            if (out(r, 0, 7)) {
                return BAD;
            }
            if (rows[r] == null) {
                return found(1);
            }
            if (out(i, 0, rows[r].length - 1)) {
                return found(2);
            }
            rows[r][i] = lanes[r] == 0 ? (v << 24) >> 24 : lanes[r] == 1 ? (v << 16) >> 16 : v;
            return well(rows[r][i]);
        }

        int copy(int a, int i, int b, int j, int n) {
            if (out(a, 0, 7) || out(b, 0, 7)) {
                return BAD;
            }
            if (rows[a] == null || rows[b] == null) {
                return found(1);
            }
            if (lanes[a] != lanes[b]) {
                return found(5);
            }
            if (i < 0 || j < 0 || n < 0 || (long) i + n > rows[a].length || (long) j + n > rows[b].length) {
                return found(2);
            }
            int[] piece = Arrays.copyOfRange(rows[a], i, i + n);
            for (int k = 0; k < n; k++) {
                rows[b][j + k] = piece[k];
            }
            return well(n);
        }

        int drop(int r) {
            if (out(r, 0, 7)) {
                return BAD;
            }
            if (rows[r] == null) {
                return found(1);
            }
            int n = rows[r].length;
            rows[r] = null;
            return well(n);
        }

        int feed(int c) {
            if (out(c, 0, 255)) {
                return BAD;
            }
            if (tape.length() == 160) {
                return FULL;
            }
            return tape.append((char) c).length();
        }

        int yard() {
            String s = tape.toString();
            tape = new StringBuilder();
            try {
                plot = new Text(s).plot();
            } catch (Fault f) {
                fault = f.number;
                return -1000100 - f.place;
            }
            past.clear();
            return plot.items.size();
        }

        int minutes(int n) {
            if (plot == null) {
                return STATE;
            }
            if (out(n, 1, 24)) {
                return BAD;
            }
            if (plot.minute + n > 400) {
                return FULL;
            }
            for (int k = 0; k < n; k++) {
                keep();
                plot.minute();
            }
            return plot.minute;
        }

        int turn(int i) {
            if (item(i) == null) {
                return BAD;
            }
            if (item(i).cell == NOWHERE) {
                return STATE;
            }
            keep();
            item(i).below ^= 1;
            return item(i).below;
        }

        int move(int i, int cell) {
            if (item(i) == null || out(cell, 0, 12)) {
                return BAD;
            }
            Item it = item(i);
            if (it.cell == NOWHERE || plot.in(cell) != null && plot.in(cell) != it) {
                return STATE;
            }
            keep();
            int was = it.cell;
            it.cell = cell;
            return was;
        }

        int coal(int cell, int fire) {
            if (plot == null) {
                return STATE;
            }
            if (out(cell, 0, 11) || out(fire, 1, 30)) {
                return BAD;
            }
            if (plot.coals.size() == 8) {
                return FULL;
            }
            keep();
            plot.coals.add(new int[] {cell, fire, 2});
            return plot.coals.size();
        }

        int fire() {
            int sum = 0;
            if (plot != null) {
                for (int[] c : plot.coals) {
                    sum += c[1];
                }
            }
            return sum;
        }

        int water() {
            if (plot == null) {
                return STATE;
            }
            keep();
            int was = fire();
            for (int[] c : plot.coals) {
                c[1] = Math.max(0, c[1] - 3);
            }
            return was - fire();
        }

        int servedOnes() {
            int n = 0;
            if (plot != null) {
                for (int[] g : plot.guests) {
                    n += g[2] == NONE ? 0 : 1;
                }
            }
            return n;
        }

        int serve(int i, int e) {
            if (item(i) == null || out(e, 0, plot.guests.size() - 1)) {
                return BAD;
            }
            Item it = item(i);
            int[] g = plot.guests.get(e);
            if (it.cell == NOWHERE || !it.through() || it.burnt || g[2] != NONE || g[1] > plot.minute || g[0] != it.kind) {
                return STATE;
            }
            keep();
            item(i).cell = NOWHERE;
            plot.guests.get(e)[2] = i;
            return servedOnes();
        }

        int undo() {
            if (past.isEmpty()) {
                return STATE;
            }
            plot = past.removeLast();
            return past.size();
        }

        int thing(int i, int what) {
            if (item(i) == null || out(what, 0, 6)) {
                return BAD;
            }
            Item it = item(i);
            int[] all = {it.cell == NOWHERE ? NONE : it.cell, it.core, it.skin[0], it.skin[1], it.below,
                it.burnt ? 1 : 0, it.through() ? 1 : 0};
            return all[what];
        }

        int eater(int e, int what) {
            return plot == null || out(e, 0, plot.guests.size() - 1) || out(what, 0, 2) ? BAD : plot.guests.get(e)[what];
        }

        int ember(int c, int what) {
            return plot == null || out(c, 0, plot.coals.size() - 1) || out(what, 0, 2) ? BAD : plot.coals.get(c)[what];
        }

        int heatAhead(int cell, int n) {
            if (plot == null) {
                return STATE;
            }
            return out(cell, 0, 11) || out(n, 0, 60) ? BAD : plot.after(n).heat(cell);
        }

        int ahead(int i, int n, int what) {
            if (item(i) == null || out(n, 0, 60) || out(what, 0, 3)) {
                return BAD;
            }
            if (item(i).cell == NOWHERE) {
                return STATE;
            }
            Item it = plot.after(n).items.get(i);
            return new int[] {it.core, it.skin[it.below], it.skin[1 - it.below], it.burnt ? 1 : 0}[what];
        }

        int readyIn(Plot p, int i) {
            Plot q = p.twin();
            for (int n = 0; n <= 60; n++) {
                if (q.items.get(i).good()) {
                    return n;
                }
                q.minute();
            }
            return NONE;
        }

        int ready(int i) {
            if (item(i) == null) {
                return BAD;
            }
            return item(i).cell == NOWHERE ? STATE : readyIn(plot, i);
        }

        int readyMoved(int i, int cell) {
            if (plot.in(cell) != null && plot.in(cell) != item(i)) {
                return NONE;
            }
            Plot q = plot.twin();
            q.items.get(i).cell = cell;
            return readyIn(q, i);
        }

        int where(int i) {
            if (item(i) == null) {
                return BAD;
            }
            if (item(i).cell == NOWHERE) {
                return STATE;
            }
            for (int n = 0; n <= 60; n++) {
                for (int cell = 0; cell < 12; cell++) {
                    if (readyMoved(i, cell) == n) {
                        return cell;
                    }
                }
            }
            return NONE;
        }

        int inTime(int i, int n) {
            if (item(i) == null || out(n, 0, 60)) {
                return BAD;
            }
            if (item(i).cell == NOWHERE) {
                return STATE;
            }
            int bits = 0;
            for (int cell = 0; cell < 12; cell++) {
                int r = readyMoved(i, cell);
                bits |= r != NONE && r <= n ? 1 << cell : 0;
            }
            return bits;
        }

        int flips(int i, int n, int what) {
            if (item(i) == null || out(n, 1, 12) || out(what, 0, 1)) {
                return BAD;
            }
            if (item(i).cell >= 12) {
                return STATE;
            }
            Plot alone = plot.twin();
            int best = NONE;
            for (int way = 0; way < 1 << n; way++) {
                if (best != NONE && Integer.bitCount(way) >= Integer.bitCount(best)) {
                    continue;
                }
                Plot q = alone.twin();
                for (int k = 0; k < n; k++) {
                    q.items.get(i).below ^= way >> k & 1;
                    q.minute();
                }
                best = q.items.get(i).good() ? way : best;
            }
            return best == NONE ? NONE : what == 1 ? best : Integer.bitCount(best);
        }

        int start(int i, int cell, int t) {
            if (item(i) == null || out(cell, 0, 11) || out(t, 1, 60)) {
                return BAD;
            }
            if (item(i).cell == NOWHERE || plot.in(cell) != null && plot.in(cell) != item(i)) {
                return STATE;
            }
            int best = NONE;
            for (int s = 0; s <= t; s++) {
                Plot q = plot.twin();
                q.items.get(i).cell = 12;
                q = q.after(s);
                q.items.get(i).cell = cell;
                best = q.after(t - s).items.get(i).good() ? s : best;
            }
            return best;
        }

        int fuelFor(int i, int n) {
            if (item(i) == null || out(n, 1, 60)) {
                return BAD;
            }
            if (item(i).cell >= 12) {
                return STATE;
            }
            if (plot.coals.size() == 8) {
                return FULL;
            }
            if (plot.after(n).items.get(i).good()) {
                return 0;
            }
            for (int f = 1; f <= 30; f++) {
                Plot q = plot.twin();
                q.coals.add(new int[] {item(i).cell, f, 2});
                if (q.after(n).items.get(i).good()) {
                    return f;
                }
            }
            return NONE;
        }

        /** All ways in their order; a way is better only if it serves more. */
        void allWays(Plot then, int e, int used, int[] way, int[] best) {
            if (e == then.guests.size()) {
                if (Integer.bitCount(used) > best[4]) {
                    best[4] = Integer.bitCount(used);
                    System.arraycopy(way, 0, best, 0, 4);
                }
                return;
            }
            int[] g = then.guests.get(e);
            for (int i = 0; i < then.items.size(); i++) {
                Item it = then.items.get(i);
                if (g[2] == NONE && g[1] <= then.minute && (used >> i & 1) == 0 && it.kind == g[0]
                    && it.good() && it.cell != NOWHERE) {
                    way[e] = i;
                    allWays(then, e + 1, used | 1 << i, way, best);
                }
            }
            way[e] = NONE;
            allWays(then, e + 1, used, way, best);
        }

        int servable(int n, int e) {
            if (plot == null) {
                return STATE;
            }
            if (out(n, 0, 60) || out(e, -1, plot.guests.size() - 1)) {
                return BAD;
            }
            int[] best = {NONE, NONE, NONE, NONE, -1};
            allWays(plot.after(n), 0, 0, new int[4], best);
            return e == -1 ? best[4] : best[e];
        }

        int hand(int n, int what) {
            if (plot == null) {
                return STATE;
            }
            if (out(n, 1, 60) || out(what, 0, 2)) {
                return BAD;
            }
            Plot q = plot.twin();
            int often = 0;
            for (int k = 0; k < n; k++) {
                int most = -1;
                for (Item it : q.items) {
                    if (it.cell < 12 && !it.burnt) {
                        most = Math.max(most, it.skin[it.below]);
                    }
                }
                for (Item it : q.items) {
                    if (it.cell < 12 && !it.burnt && it.skin[it.below] == most) {
                        if (most > it.skin[1 - it.below]) {
                            it.below = 1 - it.below;
                            often++;
                        }
                        break;
                    }
                }
                q.minute();
            }
            int burnt = 0;
            for (int i = 0; i < q.items.size(); i++) {
                burnt |= q.items.get(i).burnt && q.items.get(i).cell != NOWHERE ? 1 << i : 0;
            }
            return new int[] {burnt, q.goodOnes(), often}[what];
        }

        int judged(int r, int i, int n) {
            if (plot == null) {
                return STATE;
            }
            if (out(r, 0, 7) || out(n, 0, 40)) {
                return BAD;
            }
            if (rows[r] == null) {
                return found(1);
            }
            if (i < 0 || (long) i + n > rows[r].length) {
                return found(2);
            }
            Plot q = plot.twin();
            for (int k = 0; k < n; k++) {
                int v = rows[r][i + k];
                if (v != -1 && (item(v) == null || item(v).cell == NOWHERE)) {
                    return BAD;
                }
                if (v >= 0) {
                    q.items.get(v).below ^= 1;
                }
                q.minute();
            }
            return well(q.goodOnes());
        }

        int fuel() {
            if (plot == null) {
                return STATE;
            }
            Plot q = plot.twin();
            for (int n = 0; n <= 200; n++) {
                boolean any = false;
                for (int[] c : q.coals) {
                    any |= c[1] > 0;
                }
                if (!any) {
                    return n;
                }
                q.minute();
            }
            return NONE;
        }

        int image(int k) {
            if (out(k, 0, 1)) {
                return BAD;
            }
            if (plot == null) {
                return STATE;
            }
            images[k] = plot.twin();
            return 1;
        }

        int restore(int k) {
            if (out(k, 0, 1)) {
                return BAD;
            }
            if (images[k] == null) {
                return STATE;
            }
            plot = images[k].twin();
            past.clear();
            return 1;
        }

        int kind(int i) {
            return item(i) == null ? BAD : item(i).kind;
        }

        int as(int i, int k) {
            if (item(i) == null || out(k, 0, 5)) {
                return BAD;
            }
            String[] are = {"", "01", "012", "013", "04", "045"};
            return are[item(i).kind].indexOf('0' + k) >= 0 ? well(i) : found(3);
        }

        int body(int number, int i) {
            trace.add(number);
            Item it = item(i);
            switch (number) {
                case 10: return it.core;
                case 11: return body(10, i) + asked(i, 1);
                case 12: return -body(11, i);
                case 13: return body(10, i) - 100;
                case 14: return body(13, i) * 2;
                case 20: return i;
                case 21: return body(20, i) + it.skin[it.below];
                case 22: return body(21, i) - 1000;
                case 23: return body(20, i) - asked(i, 0);
                default: return body(21, i) * 2;
            }
        }

        int asked(int i, int what) {
            int[] size = {10, 11, 12, 11, 13, 14}, mark = {20, 21, 24, 22, 23, 23};
            return body((what == 0 ? size : mark)[item(i).kind], i);
        }

        int ask(int i, int what) {
            if (item(i) == null || out(what, 0, 1)) {
                return BAD;
            }
            trace = new ArrayList<>();
            return asked(i, what);
        }

        int trace(int i) {
            return out(i, 0, Math.min(16, trace.size()) - 1) ? NONE : trace.get(i);
        }

        int count(int what) {
            if (out(what, 0, 8)) {
                return BAD;
            }
            int there = 0;
            for (int[] r : rows) {
                there += r == null ? 0 : 1;
            }
            boolean no = plot == null;
            return new int[] {there, no ? 0 : plot.items.size(), no ? 0 : plot.coals.size(), no ? 0 : plot.guests.size(),
                no ? 0 : plot.minute, servedOnes(), fire(), past.size(), tape.length()}[what];
        }
    }

    private static final Random DICE = new Random(20261118);
    private static int wrong = 0;
    private static int run = 0;
    private static long calls = 0;
    private static Model m;
    private static CoalGrate x;

    private static void same(int got, int want, String call, int... args) {
        calls++;
        if (got != want && wrong++ < 20) {
            System.out.println("run " + run + ": " + call + Arrays.toString(args) + " answered " + got + ", the model " + want);
        }
    }

    private static int die(int lo, int hi) {
        return lo + DICE.nextInt(hi - lo + 1);
    }

    /** Mostly as told, now and then just outside or far out. */
    private static int arg(int lo, int hi) {
        int d = DICE.nextInt(60);
        if (d == 0) {
            return lo - 1;
        }
        if (d == 1) {
            return hi + 1;
        }
        if (d == 2) {
            return DICE.nextBoolean() ? Integer.MIN_VALUE : Integer.MAX_VALUE;
        }
        return hi < lo ? lo : die(lo, hi);
    }

    private static String goodText() {
        StringBuilder s = new StringBuilder("g").append(die(1, DICE.nextInt(3) == 0 ? 4 : 30)).append(',').append(die(0, 9)).append(';');
        int coals = DICE.nextInt(8);
        int hot = DICE.nextBoolean() ? 7 : die(2, 30);
        /* Few sorts, so that eaters find what they want and vie for it. */
        int least = die(1, 5), most = DICE.nextBoolean() ? least : die(least, 5);
        for (int i = 0; i < coals; i++) {
            s.append('c').append(die(0, 11)).append(',').append(die(1, hot)).append(';');
        }
        int things = die(0, 6);
        boolean[] taken = new boolean[12];
        for (int i = 0; i < things; i++) {
            int cell = die(0, 12);
            if (cell < 12 && taken[cell]) {
                cell = 12;
            }
            if (cell < 12) {
                taken[cell] = true;
            }
            s.append(SORTS.charAt(die(least, most))).append(cell).append(';');
        }
        int eaters = die(0, 4);
        for (int i = 0; i < eaters; i++) {
            s.append('e').append(SORTS.charAt(die(least, most))).append(die(0, 25)).append(';');
        }
        return s.toString();
    }

    private static String spoilt(String s) {
        StringBuilder b = new StringBuilder(s);
        int times = die(1, 2);
        for (int i = 0; i < times && b.length() > 0; i++) {
            int at = DICE.nextInt(b.length());
            String letters = "gcewkdhm,;0123456789x Z";
            char c = letters.charAt(DICE.nextInt(letters.length()));
            switch (DICE.nextInt(5)) {
                case 0: b.deleteCharAt(at); break;
                case 1: b.insert(at, c); break;
                case 2: b.setCharAt(at, c); break;
                case 3: b.setLength(at); break;
                default: b.append(goodText().substring(4)); break;
            }
        }
        return b.toString();
    }

    private static void read(String s) {
        for (int i = 0; i < s.length(); i++) {
            same(x.feed(s.charAt(i)), m.feed(s.charAt(i)), "feed", s.charAt(i));
        }
        same(x.yard(), m.yard(), "yard of " + s);
        same(x.fault(), m.fault, "fault of " + s);
    }

    private static int someThing() {
        return arg(0, m.plot == null ? 0 : m.plot.items.size() - 1);
    }

    private static int someEater(int lo) {
        return arg(lo, m.plot == null ? 0 : m.plot.guests.size() - 1);
    }

    private static void rowCall() {
        int a = arg(0, 7), b = arg(0, 7), i = arg(0, 12), j = arg(0, 12), n = arg(0, 9), v = DICE.nextInt();
        switch (DICE.nextInt(7)) {
            case 0:
                int size = arg(0, DICE.nextBoolean() ? 40 : 12), lane = arg(0, 2);
                same(x.row(a, lane, size), m.row(a, lane, size), "row", a, lane, size);
                break;
            case 1: case 2:
                v = DICE.nextInt(4) == 0 ? v : die(-1, 5);
                same(x.set(a, i, v), m.set(a, i, v), "set", a, i, v);
                break;
            case 3: same(x.copy(a, i, b, j, n), m.copy(a, i, b, j, n), "copy", a, i, b, j, n); break;
            case 4: same(x.copy(a, i, a, j, n), m.copy(a, i, a, j, n), "copy", a, i, a, j, n); break;
            case 5:
                if (DICE.nextInt(4) == 0) {
                    same(x.drop(a), m.drop(a), "drop", a);
                }
                break;
            default: same(x.judged(a, i, n), m.judged(a, i, n), "judged", a, i, n); break;
        }
        same(x.status(), m.status, "status");
    }

    private static void judgedCall() {
        int n = arg(0, 20), r = die(0, 7);
        same(x.row(r, die(0, 0), 20), m.row(r, 0, 20), "row", r, 0, 20);
        for (int k = 0; k < 20; k++) {
            int v = DICE.nextInt(50) == 0 ? die(-3, 7) : die(-1, Math.max(-1, m.plot == null ? 3 : m.plot.items.size() - 1));
            same(x.set(r, k, v), m.set(r, k, v), "set", r, k, v);
        }
        same(x.judged(r, 0, n), m.judged(r, 0, n), "judged", r, 0, n);
        same(x.judged(r, 20 - Math.max(0, Math.min(20, n)), n), m.judged(r, 20 - Math.max(0, Math.min(20, n)), n), "judged at end");
        same(x.status(), m.status, "status");
    }

    private static void actCall() {
        int t = someThing(), cell = arg(0, 12), e = someEater(0), n;
        switch (DICE.nextInt(9)) {
            case 0: case 1: case 2:
                n = DICE.nextInt(12) == 0 ? arg(1, 24) : arg(1, 4);
                same(x.minutes(n), m.minutes(n), "minutes", n);
                if (DICE.nextInt(200) == 0) {
                    tillTheEnd();
                }
                break;
            case 3: same(x.turn(t), m.turn(t), "turn", t); break;
            case 4: same(x.move(t, cell), m.move(t, cell), "move", t, cell); break;
            case 5:
                int fire = arg(1, 30);
                same(x.coal(cell, fire), m.coal(cell, fire), "coal", cell, fire);
                break;
            case 6:
                if (DICE.nextInt(3) == 0) {
                    same(x.water(), m.water(), "water");
                }
                break;
            case 7:
                for (int i = 0; i < 6; i++) {
                    for (int g = 0; g < 4; g++) {
                        if (DICE.nextInt(3) == 0) {
                            same(x.serve(i, g), m.serve(i, g), "serve", i, g);
                        }
                    }
                }
                same(x.serve(t, e), m.serve(t, e), "serve", t, e);
                break;
            default:
                int often = DICE.nextInt(10) == 0 ? 26 : DICE.nextInt(3);
                for (int k = 0; k < often; k++) {
                    same(x.undo(), m.undo(), "undo");
                }
                break;
        }
    }

    private static void tillTheEnd() {
        for (int k = 0; k < 18; k++) {
            int n = die(20, 24);
            same(x.minutes(n), m.minutes(n), "minutes", n);
        }
        for (int n = 24; n > 0; n--) {
            same(x.minutes(n), m.minutes(n), "minutes", n);
        }
        compareAll();
    }

    private static void foretoldCall() {
        int t = someThing(), n = arg(0, 60), n1 = arg(1, DICE.nextBoolean() ? 60 : 15), cell = arg(0, 11), k = arg(0, 1);
        switch (DICE.nextInt(13)) {
            case 0:
                int w = arg(0, 3);
                same(x.ahead(t, n, w), m.ahead(t, n, w), "ahead", t, n, w);
                break;
            case 1: same(x.heatAhead(cell, n), m.heatAhead(cell, n), "heatAhead", cell, n); break;
            case 2: same(x.ready(t), m.ready(t), "ready", t); break;
            case 3: same(x.where(t), m.where(t), "where", t); break;
            case 4: same(x.inTime(t, n), m.inTime(t, n), "inTime", t, n); break;
            case 5:
                int minutes = DICE.nextInt(12) == 0 ? arg(1, 12) : arg(1, 7);
                same(x.flips(t, minutes, k), m.flips(t, minutes, k), "flips", t, minutes, k);
                break;
            case 6: same(x.start(t, cell, n1), m.start(t, cell, n1), "start", t, cell, n1); break;
            case 7: same(x.fuelFor(t, n1), m.fuelFor(t, n1), "fuelFor", t, n1); break;
            case 8:
                int e = someEater(-1);
                same(x.servable(n, e), m.servable(n, e), "servable", n, e);
                break;
            case 9:
                int what = arg(0, 2);
                same(x.hand(n1, what), m.hand(n1, what), "hand", n1, what);
                break;
            case 10: same(x.fuel(), m.fuel(), "fuel"); break;
            case 11:
                if (DICE.nextInt(3) == 0) {
                    same(x.image(k), m.image(k), "image", k);
                }
                break;
            default:
                if (DICE.nextInt(5) == 0) {
                    same(x.restore(k), m.restore(k), "restore", k);
                }
                break;
        }
    }

    private static void askedCall() {
        int t = someThing(), k = arg(0, 5), what = arg(0, 1);
        same(x.kind(t), m.kind(t), "kind", t);
        same(x.as(t, k), m.as(t, k), "as", t, k);
        same(x.status(), m.status, "status");
        same(x.ask(t, what), m.ask(t, what), "ask", t, what);
        for (int i = -1; i < 8; i++) {
            same(x.trace(i), m.trace(i), "trace", i);
        }
        same(x.trace(16), m.trace(16), "trace", 16);
    }

    private static void compareAll() {
        for (int i = -1; i <= 9; i++) {
            same(x.count(i), m.count(i), "count", i);
        }
        for (int i = -1; i <= 8; i++) {
            for (int w = -1; w <= 7; w++) {
                same(x.thing(i, w), m.thing(i, w), "thing", i, w);
                same(x.eater(i, w), m.eater(i, w), "eater", i, w);
                same(x.ember(i, w), m.ember(i, w), "ember", i, w);
            }
        }
        for (int c = -1; c <= 12; c++) {
            same(x.heat(c), m.plot != null && c >= 0 && c < 12 ? m.plot.heat(c) : m.plot == null ? STATE : BAD, "heat", c);
        }
        same(x.status(), m.status, "status");
        same(x.fault(), m.fault, "fault");
    }

    private static void oneRun() {
        m = new Model();
        x = new CoalGrate();
        compareAll();
        for (int c = 0; c < 120; c++) {
            if (c == 4 || DICE.nextInt(60) == 0) {
                read(goodText());
            } else if (DICE.nextInt(40) == 0) {
                read(spoilt(goodText()));
            }
            int d = DICE.nextInt(20);
            if (d < 6) {
                foretoldCall();
            } else if (d < 13) {
                actCall();
            } else if (d < 17) {
                rowCall();
            } else if (d < 18) {
                askedCall();
            } else if (d < 19) {
                judgedCall();
            } else {
                compareAll();
            }
        }
        compareAll();
    }

    /** Well minded things over a mild fire, so that many are through, turned by few turns, and served. */
    private static void feast() {
        m = new Model();
        x = new CoalGrate();
        String text = goodText();
        read(text);
        for (int c = 0; c < 14; c++) {
            for (int i = 0; i < m.plot.items.size(); i++) {
                int n = die(2, 8);
                same(x.flips(i, n, 0), m.flips(i, n, 0), "flips in " + text, i, n, 0);
                same(x.flips(i, n, 1), m.flips(i, n, 1), "flips in " + text, i, n, 1);
                if (m.item(i).skin[m.item(i).below] > m.item(i).skin[1 - m.item(i).below] + 8) {
                    same(x.turn(i), m.turn(i), "turn", i);
                }
            }
            for (int e = -1; e <= 4; e++) {
                int n = die(0, 12);
                same(x.servable(n, e), m.servable(n, e), "servable in " + text, n, e);
                same(x.servable(0, e), m.servable(0, e), "servable in " + text, 0, e);
                for (int i = 0; i < m.plot.items.size() && DICE.nextInt(4) == 0; i++) {
                    same(x.serve(i, e), m.serve(i, e), "serve in " + text, i, e);
                }
            }
            same(x.minutes(1), m.minutes(1), "minutes", 1);
        }
        compareAll();
        for (int k = 0; k < 25; k++) {
            same(x.undo(), m.undo(), "undo in " + text);
        }
        compareAll();
    }

    private static void manyTexts() {
        m = new Model();
        x = new CoalGrate();
        for (int i = 0; i < 4000; i++) {
            read(spoilt(goodText()));
        }
        compareAll();
    }

    public static void main(String[] args) {
        int runs = args.length > 0 ? Integer.parseInt(args[0]) : 300;
        for (run = 1; run <= runs; run++) {
            oneRun();
            feast();
        }
        manyTexts();
        System.out.println(calls + " answers compared, " + wrong + " are not the model's");
        if (wrong != 0) {
            System.exit(1);
        }
    }
}
