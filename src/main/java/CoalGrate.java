/** Sausages over the coals: a grate, its coals, its things and its eaters, now and as foretold. */
public final class CoalGrate {
    public static final int NONE = -1000000, BAD = -1000001, STATE = -1000002, FULL = -1000003;

    private static final int FINDINGS = -1000010, FAULTS = -1000100;
    private static final int NO_ROW = 1, NO_PLACE = 2, NOT_THAT_KIND = 3, FEWER_THAN_NONE = 4, TWO_LANES = 5;
    private static final int CELLS = 12, ASIDE = 12, SERVED = 13;
    private static final int MOST_COALS = 8, MOST_THINGS = 6, MOST_EATERS = 4;
    private static final int MOST_FIRE = 30, FRESH_FOR = 2;
    private static final int MOST_AHEAD = 60, MOST_FLIPS = 12, MOST_FUEL = 200, MOST_JUDGED = 40;
    private static final int MOST_AT_ONCE = 24, MOST_MINUTES = 400, MOST_ACTS = 24, IMAGES = 2;

    private final Rows rows = new Rows();
    private final Reader reader = new Reader();
    private final Trace path = new Trace();
    private final Kind[] kinds = newKinds();
    private final Thing trial = new Thing(0, kinds[1]);
    /* A new yard is read into the spare one, so that a fault leaves the old one as it was. */
    private Yard now = new Yard(kinds);
    private Yard spare = new Yard(kinds);
    private boolean stands;
    private final int[] past = new int[MOST_ACTS * Yard.SIZE];
    private int pastNext;
    private int pastCount;
    private final int[] images = new int[IMAGES * Yard.SIZE];
    private final boolean[] kept = new boolean[IMAGES];
    private final int[] scratch = new int[Yard.SIZE];
    private final int[] warmth = new int[MOST_AHEAD];
    private int bestFlips;
    private int finding;

    public CoalGrate() {
    }

    private static Kind[] newKinds() {
        Kind[] all = new Kind[6];
        all[0] = new Kind(0, 1, 0, 0);
        all[1] = new Sausage(1, 8, 40, 90);
        all[2] = new Chicken(2, 16, 80, 120);
        all[3] = new Thin(3, 4, 20, 45);
        all[4] = new Cheese(4, 6, 15, 70);
        all[5] = new Corn(5, 10, 50, 100);
        return all;
    }

    // ---- rows

    public int row(int row, int lane, int n) {
        if (!rows.isRow(row) || lane < 0 || lane >= Rows.LANES || n > Rows.MOST_ITEMS) {
            return BAD;
        }
        if (n < 0) {
            return found(FEWER_THAN_NONE);
        }
        rows.lay(row, lane, n);
        return answered(n);
    }

    public int set(int row, int i, int v) {
        if (!rows.isRow(row)) {
            return BAD;
        }
        if (rows.isMissing(row)) {
            return found(NO_ROW);
        }
        if (!rows.hasPlaces(row, i, 1)) {
            return found(NO_PLACE);
        }
        return answered(rows.put(row, i, v));
    }

    public int copy(int a, int i, int b, int j, int n) {
        if (!rows.isRow(a) || !rows.isRow(b)) {
            return BAD;
        }
        if (rows.isMissing(a) || rows.isMissing(b)) {
            return found(NO_ROW);
        }
        if (!rows.sameLane(a, b)) {
            return found(TWO_LANES);
        }
        if (!rows.hasPlaces(a, i, n) || !rows.hasPlaces(b, j, n)) {
            return found(NO_PLACE);
        }
        rows.carry(a, i, b, j, n);
        return answered(n);
    }

    public int drop(int row) {
        if (!rows.isRow(row)) {
            return BAD;
        }
        if (rows.isMissing(row)) {
            return found(NO_ROW);
        }
        return answered(rows.forget(row));
    }

    private int found(int number) {
        finding = number;
        return FINDINGS - number;
    }

    private int answered(int value) {
        finding = 0;
        return value;
    }

    // ---- yards

    public int feed(int letter) {
        if (letter < 0 || letter > 255) {
            return BAD;
        }
        return reader.take(letter) ? reader.length : FULL;
    }

    public int yard() {
        boolean well = reader.readInto(spare);
        reader.length = 0;
        if (!well) {
            return FAULTS - reader.faultPlace;
        }
        Yard read = spare;
        spare = now;
        now = read;
        stands = true;
        pastCount = 0;
        return now.thingCount;
    }

    public int fault() {
        return reader.latestFault;
    }

    // ---- minutes, what is done

    public int minutes(int n) {
        if (!stands) {
            return STATE;
        }
        if (n < 1 || n > MOST_AT_ONCE) {
            return BAD;
        }
        if (now.minute + n > MOST_MINUTES) {
            return FULL;
        }
        for (int k = 0; k < n; k++) {
            remember();
            now.passMinute();
        }
        return now.minute;
    }

    public int turn(int thing) {
        Thing t = now.thingAt(thing);
        if (t == null) {
            return BAD;
        }
        if (t.isServed()) {
            return STATE;
        }
        remember();
        t.flip();
        return t.side;
    }

    public int move(int thing, int cell) {
        Thing t = now.thingAt(thing);
        if (t == null || cell < 0 || cell > ASIDE) {
            return BAD;
        }
        if (t.isServed() || !now.isOpenTo(t, cell)) {
            return STATE;
        }
        remember();
        int from = t.place;
        t.place = cell;
        return from;
    }

    public int coal(int cell, int fire) {
        if (!stands) {
            return STATE;
        }
        if (!isCell(cell) || fire < 1 || fire > MOST_FIRE) {
            return BAD;
        }
        if (now.coalCount >= MOST_COALS) {
            return FULL;
        }
        remember();
        now.addCoal(cell, fire, FRESH_FOR);
        return now.coalCount;
    }

    public int water() {
        if (!stands) {
            return STATE;
        }
        remember();
        return now.pourWater();
    }

    public int serve(int thing, int eater) {
        Thing t = now.thingAt(thing);
        if (t == null || !now.isEater(eater)) {
            return BAD;
        }
        if (t.isServed() || !t.isDone() || !now.wants(eater, t, 0)) {
            return STATE;
        }
        remember();
        t.place = SERVED;
        now.eaterThing[eater] = thing;
        return now.servedCount();
    }

    public int undo() {
        if (pastCount == 0) {
            return STATE;
        }
        pastCount--;
        pastNext = (pastNext + MOST_ACTS - 1) % MOST_ACTS;
        now.load(past, pastNext * Yard.SIZE);
        return pastCount;
    }

    private void remember() {
        now.save(past, pastNext * Yard.SIZE);
        pastNext = (pastNext + 1) % MOST_ACTS;
        pastCount = Math.min(MOST_ACTS, pastCount + 1);
    }

    public int thing(int thing, int what) {
        Thing t = now.thingAt(thing);
        if (t == null) {
            return BAD;
        }
        switch (what) {
            case 0: return t.isServed() ? NONE : t.place;
            case 1: return t.core;
            case 2: return t.skinOf(0);
            case 3: return t.skinOf(1);
            case 4: return t.side;
            case 5: return asBit(t.burnt);
            case 6: return asBit(t.isThrough());
            default: return BAD;
        }
    }

    public int eater(int eater, int what) {
        if (!now.isEater(eater)) {
            return BAD;
        }
        switch (what) {
            case 0: return now.eaterKind[eater];
            case 1: return now.eaterMinute[eater];
            case 2: return now.eaterThing[eater];
            default: return BAD;
        }
    }

    public int ember(int coal, int what) {
        if (coal < 0 || coal >= now.coalCount) {
            return BAD;
        }
        switch (what) {
            case 0: return now.coalCell[coal];
            case 1: return now.coalFire[coal];
            case 2: return now.coalFresh[coal];
            default: return BAD;
        }
    }

    public int heat(int cell) {
        return heatAhead(cell, 0);
    }

    private static int asBit(boolean yes) {
        return yes ? 1 : 0;
    }

    private static boolean isCell(int cell) {
        return cell >= 0 && cell < CELLS;
    }

    // ---- foretold

    public int ahead(int thing, int n, int what) {
        Thing t = now.thingAt(thing);
        if (t == null || !isAhead(n, 0) || what < 0 || what > 3) {
            return BAD;
        }
        if (t.isServed()) {
            return STATE;
        }
        tryAsItLies(t, n);
        switch (what) {
            case 0: return trial.core;
            case 1: return trial.lower;
            case 2: return trial.upper;
            default: return asBit(trial.burnt);
        }
    }

    public int heatAhead(int cell, int n) {
        if (!stands) {
            return STATE;
        }
        if (!isCell(cell) || !isAhead(n, 0)) {
            return BAD;
        }
        int fires = now.warmthIn(cell, n);
        Thing t = now.lyingIn(cell);
        if (t == null) {
            return fires + now.windIn(cell);
        }
        tryAsItLies(t, n);
        return trial.heatBy(fires, now.windIn(cell));
    }

    private static boolean isAhead(int n, int least) {
        return n >= least && n <= MOST_AHEAD;
    }

    private void tryAsItLies(Thing t, int n) {
        trial.become(t);
        for (int k = 0; k < n; k++) {
            now.roast(trial, k);
        }
    }

    public int ready(int thing) {
        Thing t = now.thingAt(thing);
        if (t == null) {
            return BAD;
        }
        if (t.isServed()) {
            return STATE;
        }
        return readyAt(t, t.place, MOST_AHEAD);
    }

    public int where(int thing) {
        Thing t = now.thingAt(thing);
        if (t == null) {
            return BAD;
        }
        if (t.isServed()) {
            return STATE;
        }
        int best = NONE;
        int within = MOST_AHEAD;
        for (int cell = 0; cell < CELLS && within >= 0; cell++) {
            int minutes = now.isOpenTo(t, cell) ? readyAt(t, cell, within) : NONE;
            if (minutes != NONE) {
                best = cell;
                within = minutes - 1;
            }
        }
        return best;
    }

    public int inTime(int thing, int n) {
        Thing t = now.thingAt(thing);
        if (t == null || !isAhead(n, 0)) {
            return BAD;
        }
        if (t.isServed()) {
            return STATE;
        }
        int cells = 0;
        for (int cell = 0; cell < CELLS; cell++) {
            if (now.isOpenTo(t, cell) && readyAt(t, cell, n) != NONE) {
                cells |= 1 << cell;
            }
        }
        return cells;
    }

    /** The fewest minutes, at most within, behind which it would be done if it lay there now; NONE. */
    private int readyAt(Thing t, int place, int within) {
        trial.become(t);
        trial.place = place;
        for (int k = 0; k < within && !trial.burnt && !trial.isThrough(); k++) {
            now.roast(trial, k);
            if (trial.isDone()) {
                return k + 1;
            }
        }
        return t.isDone() ? 0 : NONE;
    }

    public int flips(int thing, int n, int what) {
        Thing t = now.thingAt(thing);
        if (t == null || n < 1 || n > MOST_FLIPS || what < 0 || what > 1) {
            return BAD;
        }
        if (!isCell(t.place)) {
            return STATE;
        }
        foretellWarmth(t.place, n);
        trial.become(t);
        bestFlips = NONE;
        if (!t.burnt) {
            tryFlips(0, n, 0, t.lower, t.upper, t.core);
        }
        return what == 0 && bestFlips != NONE ? Integer.bitCount(bestFlips) : bestFlips;
    }

    private void foretellWarmth(int cell, int n) {
        for (int k = 0; k < n && k < warmth.length; k++) {
            warmth[k] = now.warmthIn(cell, k);
        }
    }

    /** Ways share their first minutes, so that each is tried from where it parts from another. */
    private void tryFlips(int k, int n, int ways, int lower, int upper, int core) {
        if (bestFlips != NONE && !isBetterWay(ways)) {
            return;
        }
        if (k >= n || k >= MOST_FLIPS) {
            if (core >= trial.kind.need) {
                bestFlips = ways;
            }
            return;
        }
        tryMinute(k, n, ways, lower, upper, core);
        tryMinute(k, n, ways | 1 << k, upper, lower, core);
    }

    private void tryMinute(int k, int n, int ways, int lower, int upper, int core) {
        trial.lower = lower;
        trial.upper = upper;
        trial.core = core;
        trial.roastBy(warmth[k], now.windIn(trial.place));
        if (trial.burnt) {
            trial.burnt = false;
            return;
        }
        tryFlips(k + 1, n, ways, trial.lower, trial.upper, trial.core);
    }

    /** More flips only make a way worse, so that this holds for what it grows into, too. */
    private boolean isBetterWay(int ways) {
        int more = Integer.bitCount(ways) - Integer.bitCount(bestFlips);
        return more < 0 || more == 0 && ways < bestFlips;
    }

    public int start(int thing, int cell, int t) {
        Thing it = now.thingAt(thing);
        if (it == null || !isCell(cell) || !isAhead(t, 1)) {
            return BAD;
        }
        if (it.isServed() || !now.isOpenTo(it, cell)) {
            return STATE;
        }
        foretellWarmth(cell, t);
        for (int s = t; s >= 0; s--) {
            if (isDoneStarting(it, cell, s, t)) {
                return s;
            }
        }
        return NONE;
    }

    private boolean isDoneStarting(Thing t, int cell, int from, int till) {
        trial.become(t);
        trial.rest(from);
        for (int k = from; k < till && k < warmth.length && !trial.burnt; k++) {
            trial.roastBy(warmth[k], now.windIn(cell));
        }
        return trial.isDone();
    }

    public int fuelFor(int thing, int n) {
        Thing t = now.thingAt(thing);
        if (t == null || !isAhead(n, 1)) {
            return BAD;
        }
        if (!isCell(t.place)) {
            return STATE;
        }
        if (now.coalCount >= MOST_COALS) {
            return FULL;
        }
        foretellWarmth(t.place, n);
        for (int fire = 0; fire <= MOST_FIRE; fire++) {
            if (isDoneWithCoal(t, fire, n)) {
                return fire;
            }
        }
        return NONE;
    }

    private boolean isDoneWithCoal(Thing t, int fire, int n) {
        trial.become(t);
        for (int k = 0; k < n && k < warmth.length && !trial.burnt; k++) {
            int added = k < FRESH_FOR ? 0 : Math.max(0, fire - now.sunkBy(k));
            trial.roastBy(warmth[k] + added, now.windIn(t.place));
        }
        return trial.isDone();
    }

    public int servable(int n, int eater) {
        if (!stands) {
            return STATE;
        }
        if (!isAhead(n, 0) || eater != -1 && !now.isEater(eater)) {
            return BAD;
        }
        int doneThen = doneAhead(n);
        int count = 0;
        for (int e = 0; e < now.eaterCount; e++) {
            int thing = firstFor(e, doneThen, n);
            if (e == eater) {
                return thing;
            }
            if (thing != NONE) {
                doneThen &= ~(1 << thing);
                count++;
            }
        }
        return count;
    }

    private int doneAhead(int n) {
        int done = 0;
        for (int i = 0; i < now.thingCount; i++) {
            if (!now.things[i].isServed()) {
                tryAsItLies(now.things[i], n);
                done |= asBit(trial.isDone()) << i;
            }
        }
        return done;
    }

    /* Each thing is of one sort alone: the first for each eater in turn takes none from the most. */
    private int firstFor(int eater, int things, int n) {
        for (int i = 0; i < now.thingCount; i++) {
            if ((things >> i & 1) != 0 && now.wants(eater, now.things[i], n)) {
                return i;
            }
        }
        return NONE;
    }

    public int hand(int n, int what) {
        if (!stands) {
            return STATE;
        }
        if (!isAhead(n, 1) || what < 0 || what > 2) {
            return BAD;
        }
        tryWholeYard();
        int often = 0;
        for (int k = 0; k < n; k++) {
            Thing hottest = spare.hottestBelow();
            if (hottest != null && hottest.lower > hottest.upper) {
                hottest.flip();
                often++;
            }
            spare.passMinute();
        }
        if (what == 2) {
            return often;
        }
        return what == 0 ? spare.burntOnes() : spare.doneOnes();
    }

    public int judged(int row, int i, int n) {
        if (!stands) {
            return STATE;
        }
        if (!rows.isRow(row) || n < 0 || n > MOST_JUDGED) {
            return BAD;
        }
        if (rows.isMissing(row)) {
            return found(NO_ROW);
        }
        if (!rows.hasPlaces(row, i, n)) {
            return found(NO_PLACE);
        }
        if (!tellsTurns(row, i, n)) {
            return BAD;
        }
        tryWholeYard();
        for (int k = 0; k < n; k++) {
            Thing turned = spare.thingAt(rows.get(row, i + k));
            if (turned != null) {
                turned.flip();
            }
            spare.passMinute();
        }
        return answered(spare.doneOnes());
    }

    private boolean tellsTurns(int row, int i, int n) {
        for (int k = 0; k < n; k++) {
            int item = rows.get(row, i + k);
            Thing t = now.thingAt(item);
            if (item != -1 && (t == null || t.isServed())) {
                return false;
            }
        }
        return true;
    }

    private void tryWholeYard() {
        now.save(scratch, 0);
        spare.load(scratch, 0);
    }

    public int fuel() {
        if (!stands) {
            return STATE;
        }
        int minutes = now.minutesOfFire();
        return minutes > MOST_FUEL ? NONE : minutes;
    }

    public int image(int k) {
        if (!isImage(k)) {
            return BAD;
        }
        if (!stands) {
            return STATE;
        }
        now.save(images, k * Yard.SIZE);
        kept[k] = true;
        return 1;
    }

    public int restore(int k) {
        if (!isImage(k)) {
            return BAD;
        }
        if (!kept[k]) {
            return STATE;
        }
        now.load(images, k * Yard.SIZE);
        pastCount = 0;
        return 1;
    }

    private static boolean isImage(int k) {
        return k >= 0 && k < IMAGES;
    }

    // ---- asked

    public int kind(int thing) {
        Thing t = now.thingAt(thing);
        return t == null ? BAD : t.kind.number;
    }

    public int as(int thing, int kind) {
        Thing t = now.thingAt(thing);
        if (t == null || kind < 0 || kind >= kinds.length) {
            return BAD;
        }
        return isOneOf(t.kind, kind) ? answered(thing) : found(NOT_THAT_KIND);
    }

    private static boolean isOneOf(Kind it, int kind) {
        switch (kind) {
            case 0: return true;
            case 1: return it instanceof Sausage;
            case 2: return it instanceof Chicken;
            case 3: return it instanceof Thin;
            case 4: return it instanceof Cheese;
            case 5: return it instanceof Corn;
            default: return false;
        }
    }

    public int ask(int thing, int what) {
        Thing t = now.thingAt(thing);
        if (t == null || what < 0 || what > 1) {
            return BAD;
        }
        path.length = 0;
        return what == 0 ? t.kind.sizeOf(t, path) : t.kind.markOf(t, path);
    }

    public int trace(int i) {
        return i >= 0 && i < path.length ? path.numbers[i] : NONE;
    }

    public int count(int what) {
        switch (what) {
            case 0: return rows.present();
            case 1: return now.thingCount;
            case 2: return now.coalCount;
            case 3: return now.eaterCount;
            case 4: return now.minute;
            case 5: return now.servedCount();
            case 6: return now.fireOfAll();
            case 7: return pastCount;
            case 8: return reader.length;
            default: return BAD;
        }
    }

    public int status() {
        return finding;
    }

    /** ROWS of one LANE each; all their items lie in one array that is used again and again. */
    private static final class Rows {
        static final int ROWS = 8, LANES = 3, MOST_ITEMS = 40, MISSING = -1;

        final int[] items = new int[ROWS * MOST_ITEMS];
        final int[] lanes = new int[ROWS];
        final int[] sizes = new int[ROWS];

        Rows() {
            for (int row = 0; row < ROWS; row++) {
                lanes[row] = MISSING;
            }
        }

        boolean isRow(int row) {
            return row >= 0 && row < ROWS;
        }

        boolean isMissing(int row) {
            return lanes[row] == MISSING;
        }

        boolean sameLane(int a, int b) {
            return lanes[a] == lanes[b];
        }

        /* Sizes are told apart by taking away: a sum could wrap around. */
        boolean hasPlaces(int row, int i, int n) {
            return i >= 0 && n >= 0 && n <= sizes[row] && i <= sizes[row] - n;
        }

        void lay(int row, int lane, int n) {
            lanes[row] = lane;
            sizes[row] = n;
            for (int i = 0; i < n; i++) {
                items[row * MOST_ITEMS + i] = 0;
            }
        }

        int get(int row, int i) {
            return items[row * MOST_ITEMS + i];
        }

        int put(int row, int i, int v) {
            int cut = lanes[row] == 0 ? (byte) v : lanes[row] == 1 ? (short) v : v;
            items[row * MOST_ITEMS + i] = cut;
            return cut;
        }

        void carry(int a, int i, int b, int j, int n) {
            System.arraycopy(items, a * MOST_ITEMS + i, items, b * MOST_ITEMS + j, n);
        }

        int forget(int row) {
            lanes[row] = MISSING;
            return sizes[row];
        }

        int present() {
            int n = 0;
            for (int row = 0; row < ROWS; row++) {
                n += asBit(!isMissing(row));
            }
            return n;
        }
    }

    /** Reads THE TAPE as a YARD: each token is looked at once, so that the first fault is the told one. */
    private static final class Reader {
        static final int MOST_BYTES = 160, END = -1;
        static final int CANNOT_STAND = 1, NOT_AS_TOLD = 2, NO_ROOM = 3;

        final int[] tape = new int[MOST_BYTES];
        int length;
        int at;
        boolean failed;
        int faultPlace;
        int latestFault;

        boolean take(int letter) {
            if (length >= MOST_BYTES) {
                return false;
            }
            tape[length] = letter;
            length++;
            return true;
        }

        boolean readInto(Yard yard) {
            at = 0;
            failed = false;
            yard.clear();
            readGrate(yard);
            for (int i = 0; i <= MOST_COALS && !failed && next() == 'c'; i++) {
                readCoal(yard);
            }
            for (int i = 0; i <= MOST_THINGS && !failed && sortOf(next()) != NONE; i++) {
                readThing(yard);
            }
            for (int i = 0; i <= MOST_EATERS && !failed && next() == 'e'; i++) {
                readEater(yard);
            }
            if (!failed && at < length) {
                fail(CANNOT_STAND, at);
            }
            return !failed;
        }

        void readGrate(Yard yard) {
            readSign('g');
            yard.sink = readNumber(1, 30);
            readSign(',');
            yard.wind = readNumber(0, 9);
            readSign(';');
        }

        void readCoal(Yard yard) {
            if (yard.coalCount >= MOST_COALS) {
                fail(NO_ROOM, at);
                return;
            }
            readSign('c');
            int cell = readNumber(0, CELLS - 1);
            readSign(',');
            int fire = readNumber(1, MOST_FIRE);
            readSign(';');
            yard.addCoal(cell, fire, 0);
        }

        void readThing(Yard yard) {
            if (yard.thingCount >= MOST_THINGS) {
                fail(NO_ROOM, at);
                return;
            }
            int sort = readSort();
            int place = at;
            int cell = readNumber(0, ASIDE);
            if (!failed && yard.lyingIn(cell) != null) {
                fail(NOT_AS_TOLD, place);
            }
            readSign(';');
            yard.addThing(sort, cell);
        }

        void readEater(Yard yard) {
            if (yard.eaterCount >= MOST_EATERS) {
                fail(NO_ROOM, at);
                return;
            }
            readSign('e');
            int sort = readSort();
            int minute = readNumber(0, 60);
            readSign(';');
            yard.addEater(sort, minute);
        }

        int next() {
            return at < length ? tape[at] : END;
        }

        void readSign(int sign) {
            if (next() == sign) {
                at++;
            } else {
                fail(CANNOT_STAND, at);
            }
        }

        int readSort() {
            int sort = sortOf(next());
            if (sort == NONE) {
                fail(CANNOT_STAND, at);
                return 0;
            }
            at++;
            return sort;
        }

        int readNumber(int least, int most) {
            int first = at;
            int value = 0;
            for (int i = 0; i < 3 && isFigure(next()); i++) {
                value = value * 10 + next() - '0';
                at++;
            }
            int figures = at - first;
            if (figures < 1 || figures > 2) {
                fail(CANNOT_STAND, first);
            } else if (value < least || value > most) {
                fail(NOT_AS_TOLD, first);
            }
            return value;
        }

        /* What is read behind a fault is thrown away, so only the first one is kept. */
        void fail(int fault, int place) {
            if (!failed) {
                failed = true;
                latestFault = fault;
                faultPlace = place;
            }
        }

        static boolean isFigure(int c) {
            return c >= '0' && c <= '9';
        }

        static int sortOf(int letter) {
            switch (letter) {
                case 'w': return 1;
                case 'k': return 2;
                case 'd': return 3;
                case 'h': return 4;
                case 'm': return 5;
                default: return NONE;
            }
        }
    }

    /** A grate with all that belongs to it. */
    private static final class Yard {
        /** How many numbers an image of a yard has. */
        static final int SIZE = 6 + 3 * MOST_COALS + Thing.SIZE * MOST_THINGS + 3 * MOST_EATERS;

        final Kind[] kinds;
        int sink;
        int wind;
        int minute;
        int coalCount;
        final int[] coalCell = new int[MOST_COALS];
        final int[] coalFire = new int[MOST_COALS];
        final int[] coalFresh = new int[MOST_COALS];
        int thingCount;
        final Thing[] things = new Thing[MOST_THINGS];
        int eaterCount;
        final int[] eaterKind = new int[MOST_EATERS];
        final int[] eaterMinute = new int[MOST_EATERS];
        final int[] eaterThing = new int[MOST_EATERS];

        Yard(Kind[] kinds) {
            this.kinds = kinds;
            for (int i = 0; i < MOST_THINGS; i++) {
                things[i] = new Thing(i, kinds[1]);
            }
        }

        void clear() {
            minute = 0;
            coalCount = 0;
            thingCount = 0;
            eaterCount = 0;
        }

        void addCoal(int cell, int fire, int fresh) {
            if (coalCount < MOST_COALS) {
                coalCell[coalCount] = cell;
                coalFire[coalCount] = fire;
                coalFresh[coalCount] = fresh;
                coalCount++;
            }
        }

        void addThing(int kind, int place) {
            if (thingCount < MOST_THINGS) {
                things[thingCount].layCold(kindOf(kind), place);
                thingCount++;
            }
        }

        void addEater(int kind, int comes) {
            if (eaterCount < MOST_EATERS) {
                eaterKind[eaterCount] = kind;
                eaterMinute[eaterCount] = comes;
                eaterThing[eaterCount] = NONE;
                eaterCount++;
            }
        }

        Kind kindOf(int number) {
            return kinds[number >= 0 && number < kinds.length ? number : 0];
        }

        Thing thingAt(int i) {
            return i >= 0 && i < thingCount ? things[i] : null;
        }

        boolean isEater(int eater) {
            return eater >= 0 && eater < eaterCount;
        }

        /** The thing in a cell; null for aside, where there is room for all. */
        Thing lyingIn(int cell) {
            for (int i = 0; i < thingCount; i++) {
                if (things[i].place == cell && isCell(cell)) {
                    return things[i];
                }
            }
            return null;
        }

        boolean isOpenTo(Thing t, int cell) {
            Thing there = lyingIn(cell);
            return there == null || there == t;
        }

        boolean wants(int eater, Thing t, int n) {
            return eaterThing[eater] == NONE && eaterMinute[eater] <= minute + n
                && eaterKind[eater] == t.kind.number;
        }

        /** By how much each coal has sunk behind n minutes more; the count of multiples passed. */
        int sunkBy(int n) {
            return sink > 0 ? (minute + n) / sink - minute / sink : 0;
        }

        /** What the coals alone give to a cell, n minutes from now. */
        int warmthIn(int cell, int n) {
            int sunk = sunkBy(n);
            int sum = 0;
            for (int c = 0; c < coalCount; c++) {
                int fire = coalFresh[c] > n ? 0 : Math.max(0, coalFire[c] - sunk);
                if (coalCell[c] == cell) {
                    sum += fire;
                } else if (isBeside(coalCell[c], cell)) {
                    sum += fire / 2;
                }
            }
            return sum;
        }

        static boolean isBeside(int a, int b) {
            return Math.abs(a % 4 - b % 4) + Math.abs(a / 4 - b / 4) == 1;
        }

        int windIn(int cell) {
            return cell % 4 == 0 ? wind : 0;
        }

        /** A minute of a thing, the one that begins n minutes from now. */
        void roast(Thing t, int n) {
            if (isCell(t.place)) {
                t.roastBy(warmthIn(t.place, n), windIn(t.place));
            } else if (!t.isServed()) {
                t.rest(1);
            }
        }

        void passMinute() {
            for (int i = 0; i < thingCount; i++) {
                roast(things[i], 0);
            }
            int sunk = sunkBy(1);
            for (int c = 0; c < coalCount; c++) {
                coalFresh[c] = Math.max(0, coalFresh[c] - 1);
                coalFire[c] = Math.max(0, coalFire[c] - sunk);
            }
            minute++;
        }

        int pourWater() {
            int before = fireOfAll();
            for (int c = 0; c < coalCount; c++) {
                coalFire[c] = Math.max(0, coalFire[c] - 3);
            }
            return before - fireOfAll();
        }

        int fireOfAll() {
            int sum = 0;
            for (int c = 0; c < coalCount; c++) {
                sum += coalFire[c];
            }
            return sum;
        }

        int minutesOfFire() {
            int most = 0;
            for (int c = 0; c < coalCount; c++) {
                most = Math.max(most, coalFire[c]);
            }
            return most == 0 || sink <= 0 ? 0 : (minute / sink + most) * sink - minute;
        }

        int servedCount() {
            int n = 0;
            for (int i = 0; i < thingCount; i++) {
                n += asBit(things[i].isServed());
            }
            return n;
        }

        /** The thing on the grate, not burnt, whose skin below is most, the first of several; or null. */
        Thing hottestBelow() {
            Thing best = null;
            for (int i = 0; i < thingCount; i++) {
                Thing t = things[i];
                if (isCell(t.place) && !t.burnt && (best == null || t.lower > best.lower)) {
                    best = t;
                }
            }
            return best;
        }

        int burntOnes() {
            int bits = 0;
            for (int i = 0; i < thingCount; i++) {
                bits |= asBit(things[i].burnt && !things[i].isServed()) << i;
            }
            return bits;
        }

        int doneOnes() {
            int bits = 0;
            for (int i = 0; i < thingCount; i++) {
                bits |= asBit(things[i].isDone() && !things[i].isServed()) << i;
            }
            return bits;
        }

        void save(int[] to, int at) {
            if (at < 0 || at > to.length - SIZE) {
                return;
            }
            to[at] = sink;
            to[at + 1] = wind;
            to[at + 2] = minute;
            to[at + 3] = coalCount;
            to[at + 4] = thingCount;
            to[at + 5] = eaterCount;
            int coals = at + 6;
            System.arraycopy(coalCell, 0, to, coals, MOST_COALS);
            System.arraycopy(coalFire, 0, to, coals + MOST_COALS, MOST_COALS);
            System.arraycopy(coalFresh, 0, to, coals + 2 * MOST_COALS, MOST_COALS);
            int eaters = coals + 3 * MOST_COALS;
            System.arraycopy(eaterKind, 0, to, eaters, MOST_EATERS);
            System.arraycopy(eaterMinute, 0, to, eaters + MOST_EATERS, MOST_EATERS);
            System.arraycopy(eaterThing, 0, to, eaters + 2 * MOST_EATERS, MOST_EATERS);
            for (int i = 0; i < MOST_THINGS; i++) {
                things[i].saveIn(to, eaters + 3 * MOST_EATERS + i * Thing.SIZE);
            }
        }

        void load(int[] from, int at) {
            if (at < 0 || at > from.length - SIZE) {
                return;
            }
            sink = from[at];
            wind = from[at + 1];
            minute = from[at + 2];
            coalCount = from[at + 3];
            thingCount = from[at + 4];
            eaterCount = from[at + 5];
            int coals = at + 6;
            System.arraycopy(from, coals, coalCell, 0, MOST_COALS);
            System.arraycopy(from, coals + MOST_COALS, coalFire, 0, MOST_COALS);
            System.arraycopy(from, coals + 2 * MOST_COALS, coalFresh, 0, MOST_COALS);
            int eaters = coals + 3 * MOST_COALS;
            System.arraycopy(from, eaters, eaterKind, 0, MOST_EATERS);
            System.arraycopy(from, eaters + MOST_EATERS, eaterMinute, 0, MOST_EATERS);
            System.arraycopy(from, eaters + 2 * MOST_EATERS, eaterThing, 0, MOST_EATERS);
            for (int i = 0; i < MOST_THINGS; i++) {
                int thing = eaters + 3 * MOST_EATERS + i * Thing.SIZE;
                things[i].loadFrom(from, thing, kindOf(from[thing]));
            }
        }
    }

    /** A THING; its skins are held by where they lie, since heat and fat ask for the one below alone. */
    private static final class Thing {
        /** How many numbers an image of a thing has. */
        static final int SIZE = 7;

        final int number;
        Kind kind;
        int place;
        int core;
        int lower;
        int upper;
        int side;
        boolean burnt;

        Thing(int number, Kind kind) {
            this.number = number;
            this.kind = kind;
        }

        void layCold(Kind kind, int place) {
            this.kind = kind;
            this.place = place;
            core = 0;
            lower = 0;
            upper = 0;
            side = 0;
            burnt = false;
        }

        void become(Thing other) {
            kind = other.kind;
            place = other.place;
            core = other.core;
            lower = other.lower;
            upper = other.upper;
            side = other.side;
            burnt = other.burnt;
        }

        boolean isServed() {
            return place == SERVED;
        }

        boolean isThrough() {
            return core >= kind.need;
        }

        boolean isDone() {
            return isThrough() && !burnt;
        }

        int skinOf(int which) {
            return which == side ? lower : upper;
        }

        void flip() {
            int below = lower;
            lower = upper;
            upper = below;
            side = 1 - side;
        }

        /** The heat that it takes, fat of its own with it, where the coals give so much. */
        int heatBy(int fires, int wind) {
            int fat = fires > 0 && lower >= 10 && kind.drips() ? 3 : 0;
            return fires + fat + wind;
        }

        void roastBy(int fires, int wind) {
            lower += heatBy(fires, wind);
            upper = Math.max(0, upper - 2);
            core += kind.share(lower + upper);
            burnt = burnt || lower > kind.limit || upper > kind.limit;
        }

        void rest(int minutes) {
            lower = Math.max(0, lower - 3 * minutes);
            upper = Math.max(0, upper - 3 * minutes);
        }

        void saveIn(int[] to, int at) {
            if (at < 0 || at > to.length - SIZE) {
                return;
            }
            to[at] = kind.number;
            to[at + 1] = place;
            to[at + 2] = core;
            to[at + 3] = lower;
            to[at + 4] = upper;
            to[at + 5] = side;
            to[at + 6] = asBit(burnt);
        }

        void loadFrom(int[] from, int at, Kind known) {
            if (at < 0 || at > from.length - SIZE) {
                return;
            }
            kind = known;
            place = from[at + 1];
            core = from[at + 2];
            lower = from[at + 3];
            upper = from[at + 4];
            side = from[at + 5];
            burnt = from[at + 6] != 0;
        }
    }

    /** THE TRACE of the bodies of the latest ask. */
    private static final class Trace {
        final int[] numbers = new int[16];
        int length;

        void leave(int body) {
            if (length < numbers.length) {
                numbers[length] = body;
                length++;
            }
        }
    }

    /** What all THINGS are: the bodies here are lent to each kind that tells none. */
    private static class Kind {
        final int number;
        final int thick;
        final int need;
        final int limit;

        Kind(int number, int thick, int need, int limit) {
            this.number = number;
            this.thick = thick;
            this.need = need;
            this.limit = limit;
        }

        int share(int skins) {
            return thick > 0 ? skins / thick : 0;
        }

        boolean drips() {
            return false;
        }

        int sizeOf(Thing t, Trace path) {
            path.leave(10);
            return t.core;
        }

        int markOf(Thing t, Trace path) {
            path.leave(20);
            return t.number;
        }
    }

    private static class Sausage extends Kind {
        Sausage(int number, int thick, int need, int limit) {
            super(number, thick, need, limit);
        }

        boolean drips() {
            return true;
        }

        int sizeOf(Thing t, Trace path) {
            path.leave(11);
            return super.sizeOf(t, path) + markOf(t, path);
        }

        int markOf(Thing t, Trace path) {
            path.leave(21);
            return super.markOf(t, path) + t.lower;
        }
    }

    private static final class Chicken extends Sausage {
        Chicken(int number, int thick, int need, int limit) {
            super(number, thick, need, limit);
        }

        int sizeOf(Thing t, Trace path) {
            path.leave(12);
            return -super.sizeOf(t, path);
        }

        int markOf(Thing t, Trace path) {
            path.leave(24);
            return 2 * super.markOf(t, path);
        }
    }

    private static final class Thin extends Sausage {
        Thin(int number, int thick, int need, int limit) {
            super(number, thick, need, limit);
        }

        int markOf(Thing t, Trace path) {
            path.leave(22);
            return super.markOf(t, path) - 1000;
        }
    }

    private static class Cheese extends Kind {
        Cheese(int number, int thick, int need, int limit) {
            super(number, thick, need, limit);
        }

        int sizeOf(Thing t, Trace path) {
            path.leave(13);
            return super.sizeOf(t, path) - 100;
        }

        int markOf(Thing t, Trace path) {
            path.leave(23);
            return super.markOf(t, path) - sizeOf(t, path);
        }
    }

    private static final class Corn extends Cheese {
        Corn(int number, int thick, int need, int limit) {
            super(number, thick, need, limit);
        }

        int sizeOf(Thing t, Trace path) {
            path.leave(14);
            return 2 * super.sizeOf(t, path);
        }
    }
}
