/** Edges of promises 1 to 5: a new object, and ROWS (terms 1). */
public final class RowEdgesTest {
    private static final int BAD = Due.BAD, STATE = Due.STATE, NONE = Due.NONE;
    private static final int NULL = Due.NULL, PLACE = Due.PLACE, SIZE = Due.SIZE, STORE = Due.STORE;
    private static final int LOW = Due.LOW, HIGH = Due.HIGH;
    private static final int BYTES = 0, SHORTS = 1, INTS = 2;

    /**
     * An item is seen by judged() alone: of six things aside, all cold, an item from -1 to 5 is taken
     * (0: none is through), another one is not (BAD).
     */
    private static CoalGrate withSixThings() {
        return Due.of("g30,0;h12;h12;h12;h12;h12;h12;");
    }

    private static boolean isTaken(CoalGrate x, int row, int i) {
        return x.judged(row, i, 1) == 0;
    }

    /** Which of the first n items are 9, as bits; all others are taken for things or none. */
    private static int nines(CoalGrate x, int row, int n) {
        int bits = 0;
        for (int i = 0; i < n; i++) {
            bits |= isTaken(x, row, i) ? 0 : 1 << i;
        }
        return bits;
    }

    private static void newObject() {
        Due.promise(1, "No YARD");
        CoalGrate x = new CoalGrate();
        for (int what = 0; what <= 8; what++) {
            Due.is("count " + what, x.count(what), 0);
        }
        Due.is("minutes", x.minutes(1), STATE);
        Due.is("coal", x.coal(0, 1), STATE);
        Due.is("water", x.water(), STATE);
        Due.is("undo", x.undo(), STATE);
        Due.is("heat", x.heat(0), STATE);
        Due.is("heatAhead", x.heatAhead(0, 0), STATE);
        Due.is("servable", x.servable(0, -1), STATE);
        Due.is("hand", x.hand(1, 0), STATE);
        Due.is("judged", x.judged(0, 0, 0), STATE);
        Due.is("fuel", x.fuel(), STATE);
        Due.is("image", x.image(0), STATE);
        Due.is("restore", x.restore(0), STATE);
        Due.is("fault", x.fault(), 0);
        Due.is("status", x.status(), 0);
        Due.is("trace", x.trace(0), NONE);
        noThingAtFirst(x);
        Due.is("still none", x.count(1), 0);
    }

    private static void noThingAtFirst(CoalGrate x) {
        Due.is("turn", x.turn(0), BAD);
        Due.is("move", x.move(0, 0), BAD);
        Due.is("serve", x.serve(0, 0), BAD);
        Due.is("thing", x.thing(0, 0), BAD);
        Due.is("eater", x.eater(0, 0), BAD);
        Due.is("ember", x.ember(0, 0), BAD);
        Due.is("ahead", x.ahead(0, 0, 0), BAD);
        Due.is("ready", x.ready(0), BAD);
        Due.is("where", x.where(0), BAD);
        Due.is("inTime", x.inTime(0, 0), BAD);
        Due.is("flips", x.flips(0, 1, 0), BAD);
        Due.is("start", x.start(0, 0, 1), BAD);
        Due.is("fuelFor", x.fuelFor(0, 1), BAD);
        Due.is("kind", x.kind(0), BAD);
        Due.is("as", x.as(0, 0), BAD);
        Due.is("ask", x.ask(0, 0), BAD);
    }

    private static void missingAtFirst() {
        Due.promise(2, "ROWS 0 .. 7 are missing (at first)");
        CoalGrate x = withSixThings();
        for (int row = 0; row < 8; row++) {
            Due.is("set in row " + row, x.set(row, 0, 0), NULL);
            Due.is("drop of row " + row, x.drop(row), NULL);
            Due.is("copy in row " + row, x.copy(row, 0, row, 0, 0), NULL);
            Due.is("judged by row " + row, x.judged(row, 0, 0), NULL);
        }
        Due.is("rows", x.count(0), 0);
        for (int row = 0; row < 8; row++) {
            Due.is("row " + row, x.row(row, row % 3, row), row);
            Due.is("rows", x.count(0), row + 1);
        }
    }

    private static void rowBounds() {
        Due.promise(2, "BAD: ROW, LANE, n above 40; SIZE");
        CoalGrate x = new CoalGrate();
        Due.is("row -1", x.row(-1, 0, 0), BAD);
        Due.is("row 0", x.row(0, 0, 0), 0);
        Due.is("row 7", x.row(7, 0, 0), 0);
        Due.is("row 8", x.row(8, 0, 0), BAD);
        Due.is("least row", x.row(LOW, 0, 0), BAD);
        Due.is("most row", x.row(HIGH, 0, 0), BAD);
        Due.is("lane -1", x.row(1, -1, 0), BAD);
        Due.is("lane 3", x.row(1, 3, 0), BAD);
        Due.is("least lane", x.row(1, LOW, 0), BAD);
        Due.is("most lane", x.row(1, HIGH, 0), BAD);
        Due.is("no row was laid", x.count(0), 2);
        for (int lane = BYTES; lane <= INTS; lane++) {
            Due.is("no items", x.row(1, lane, 0), 0);
            Due.is("one item", x.row(1, lane, 1), 1);
            Due.is("39 items", x.row(1, lane, 39), 39);
            Due.is("40 items", x.row(1, lane, 40), 40);
            Due.is("41 items", x.row(1, lane, 41), BAD);
            Due.is("most items", x.row(1, lane, HIGH), BAD);
            Due.is("status", x.status(), 0);
            Due.is("fewer than none", x.row(1, lane, -1), SIZE);
            Due.is("status", x.status(), 4);
            Due.is("least items", x.row(1, lane, LOW), SIZE);
            Due.is("the row stays", x.drop(1), 40);
        }
        Due.promise(2, "which comes first: BAD, then SIZE");
        Due.is("row 8, fewer", x.row(8, 0, -1), BAD);
        Due.is("row -1, fewer", x.row(-1, 0, -1), BAD);
        Due.is("lane 3, fewer", x.row(1, 3, -1), BAD);
        Due.is("lane -1, fewer", x.row(1, -1, -1), BAD);
        Due.is("a missing row, fewer", x.row(1, 0, -1), SIZE);
        Due.is("it is missing yet", x.drop(1), NULL);
    }

    private static void rowInPlace() {
        Due.promise(2, "0 to 40 ITEMS, 0 at first; in place of what is there");
        CoalGrate x = withSixThings();
        x.row(3, INTS, 40);
        Due.is("all are 0", x.judged(3, 0, 40), 0);
        for (int i = 0; i < 40; i++) {
            Due.is("item", x.set(3, i, 9), 9);
        }
        Due.is("41 are too many", x.row(3, INTS, 41), BAD);
        Due.is("fewer than none", x.row(3, INTS, -1), SIZE);
        Due.is("the first stays 9", x.judged(3, 0, 1), BAD);
        Due.is("the last stays 9", x.judged(3, 39, 1), BAD);
        Due.is("fewer items", x.row(3, INTS, 2), 2);
        Due.is("item 2 is gone", x.set(3, 2, 0), PLACE);
        Due.is("both are 0", nines(x, 3, 2), 0);
        Due.is("all again", x.row(3, INTS, 40), 40);
        Due.is("none of the old is seen", x.judged(3, 0, 40), 0);
        Due.is("another lane", x.row(3, BYTES, 1), 1);
        Due.is("its bits", x.set(3, 0, 256 + 9), 9);
        Due.is("one row alone", x.count(0), 1);
        Due.promise(2, "ITEMS, 0 at first: THING 0 is TURNED by each, not none");
        CoalGrate y = Due.of("g30,0;c0,10;h0;");
        for (int lane = BYTES; lane <= INTS; lane++) {
            y.row(0, lane, 8);
            Due.is("turned ahead of each of 8: not burnt", y.judged(0, 0, 8), 1);
            for (int i = 0; i < 8; i++) {
                y.set(0, i, -1);
            }
            Due.is("as it lies: burnt", y.judged(0, 0, 8), 0);
        }
        Due.promise(2, "a ROW of no ITEMS is not missing");
        Due.is("none", x.row(4, SHORTS, 0), 0);
        Due.is("rows", x.count(0), 2);
        Due.is("no place in it", x.set(4, 0, 0), PLACE);
        Due.is("copy of nothing", x.copy(4, 0, 4, 0, 0), 0);
        Due.is("judged by nothing", x.judged(4, 0, 0), 0);
    }

    private static void setBits() {
        Due.promise(3, "ITEM i becomes v, its lowest bits, as many as the LANE has");
        CoalGrate x = new CoalGrate();
        x.row(0, BYTES, 1);
        x.row(1, SHORTS, 1);
        x.row(2, INTS, 1);
        int[][] bytes = {{0, 0}, {127, 127}, {128, -128}, {255, -1}, {256, 0}, {-1, -1}, {-128, -128}, {-129, 127},
            {383, 127}, {384, -128}, {LOW, 0}, {HIGH, -1}};
        for (int[] pair : bytes) {
            Due.is("byte of " + pair[0], x.set(0, 0, pair[0]), pair[1]);
        }
        int[][] shorts = {{0, 0}, {128, 128}, {32767, 32767}, {32768, -32768}, {65535, -1}, {65536, 0}, {-1, -1},
            {-32768, -32768}, {-32769, 32767}, {LOW, 0}, {HIGH, -1}};
        for (int[] pair : shorts) {
            Due.is("short of " + pair[0], x.set(1, 0, pair[0]), pair[1]);
        }
        for (int v : new int[] {0, -1, 32768, 65536, -32769, LOW, HIGH}) {
            Due.is("int of " + v, x.set(2, 0, v), v);
        }
        Due.promise(3, "what it is then is what is kept");
        CoalGrate y = withSixThings();
        y.row(0, BYTES, 3);
        y.set(0, 0, 256 + 5);
        y.set(0, 1, 255);
        y.set(0, 2, 256 + 6);
        Due.is("261 is thing 5", isTaken(y, 0, 0) ? 1 : 0, 1);
        Due.is("255 is -1, none", isTaken(y, 0, 1) ? 1 : 0, 1);
        Due.is("262 is 6, no thing", y.judged(0, 2, 1), BAD);
        y.row(1, SHORTS, 2);
        y.set(1, 0, 65535);
        y.set(1, 1, 255);
        Due.is("65535 is -1", isTaken(y, 1, 0) ? 1 : 0, 1);
        Due.is("255 is no thing", y.judged(1, 1, 1), BAD);
    }

    private static void setPlaces() {
        Due.promise(3, "PLACE (no such place of a ROW)");
        CoalGrate x = withSixThings();
        for (int lane = BYTES; lane <= INTS; lane++) {
            x.row(0, lane, 40);
            Due.is("place -1", x.set(0, -1, 1), PLACE);
            Due.is("place 0", x.set(0, 0, 1), 1);
            Due.is("place 39", x.set(0, 39, 1), 1);
            Due.is("place 40", x.set(0, 40, 1), PLACE);
            Due.is("status", x.status(), 2);
            Due.is("least place", x.set(0, LOW, 1), PLACE);
            Due.is("most place", x.set(0, HIGH, 1), PLACE);
            x.row(0, lane, 3);
            Due.is("place 2 of 3", x.set(0, 2, 1), 1);
            Due.is("status", x.status(), 0);
            Due.is("place 3 of 3", x.set(0, 3, 1), PLACE);
        }
        Due.promise(3, "ITEM i, and no other one");
        for (int row = 0; row < 8; row++) {
            x.row(row, INTS, 40);
        }
        x.set(4, 0, 9);
        x.set(4, 39, 9);
        x.set(2, 17, 9);
        for (int row = 0; row < 8; row++) {
            Due.is("first of row " + row, x.judged(row, 0, 1), row == 4 ? BAD : 0);
            Due.is("last of row " + row, x.judged(row, 39, 1), row == 4 ? BAD : 0);
            Due.is("the others of row " + row, x.judged(row, 1, 38), row == 2 ? BAD : 0);
        }
        Due.is("ahead of 17", x.judged(2, 0, 17), 0);
        Due.is("behind 17", x.judged(2, 18, 22), 0);
    }

    private static void setOrder() {
        Due.promise(3, "which comes first: BAD: ROW; NULL; PLACE");
        CoalGrate x = new CoalGrate();
        Due.is("row -1, no place", x.set(-1, -1, 0), BAD);
        Due.is("row 8, no place", x.set(8, 40, 0), BAD);
        Due.is("least row", x.set(LOW, 0, 0), BAD);
        Due.is("most row", x.set(HIGH, 0, 0), BAD);
        Due.is("status", x.status(), 0);
        Due.is("row 0 is missing, no place", x.set(0, -1, 0), NULL);
        Due.is("row 7 is missing, no place", x.set(7, 40, 0), NULL);
        Due.is("status", x.status(), 1);
        x.row(0, BYTES, 2);
        x.drop(0);
        Due.is("it is missing again", x.set(0, 0, 0), NULL);
    }

    private static void copyBounds() {
        Due.promise(4, "PLACE (i, j, n below 0, or beyond an end)");
        CoalGrate x = new CoalGrate();
        x.row(0, INTS, 4);
        x.row(1, INTS, 6);
        Due.is("i -1", x.copy(0, -1, 1, 0, 1), PLACE);
        Due.is("j -1", x.copy(0, 0, 1, -1, 1), PLACE);
        Due.is("n -1", x.copy(0, 0, 1, 0, -1), PLACE);
        Due.is("n -1 from within", x.copy(0, 2, 1, 2, -1), PLACE);
        Due.is("status", x.status(), 2);
        Due.is("up to both ends", x.copy(0, 0, 1, 2, 4), 4);
        Due.is("status", x.status(), 0);
        Due.is("beyond a by n", x.copy(0, 0, 1, 0, 5), PLACE);
        Due.is("beyond a by i", x.copy(0, 1, 1, 0, 4), PLACE);
        Due.is("beyond b by n", x.copy(1, 0, 0, 0, 5), PLACE);
        Due.is("beyond b by j", x.copy(0, 0, 1, 3, 4), PLACE);
        Due.is("the last of each", x.copy(0, 3, 1, 5, 1), 1);
        Due.is("one beyond a", x.copy(0, 4, 1, 5, 1), PLACE);
        Due.is("one beyond b", x.copy(0, 3, 1, 6, 1), PLACE);
        Due.is("none at both ends", x.copy(0, 4, 1, 6, 0), 0);
        Due.is("none beyond a", x.copy(0, 5, 1, 0, 0), PLACE);
        Due.is("none beyond b", x.copy(0, 0, 1, 7, 0), PLACE);
        Due.is("none, i -1", x.copy(0, -1, 1, 0, 0), PLACE);
        Due.is("none, j -1", x.copy(0, 0, 1, -1, 0), PLACE);
        Due.is("a sum that wraps around in a", x.copy(0, HIGH, 1, 0, 1), PLACE);
        Due.is("a sum that wraps around in b", x.copy(0, 0, 1, HIGH, 1), PLACE);
        Due.is("a sum that wraps around by n", x.copy(0, 1, 1, 1, HIGH), PLACE);
        Due.is("the least n", x.copy(0, 0, 1, 0, LOW), PLACE);
        Due.is("the least i", x.copy(0, LOW, 1, 0, 1), PLACE);
        Due.is("the least j", x.copy(0, 0, 1, LOW, 1), PLACE);
        Due.is("n and i that wrap to 0", x.copy(0, LOW, 1, 0, LOW), PLACE);
        x.row(2, BYTES, 40);
        x.row(3, BYTES, 40);
        Due.is("40 items", x.copy(2, 0, 3, 0, 40), 40);
        Due.is("41 items", x.copy(2, 0, 3, 0, 41), PLACE);
        Due.is("40 onto themselves", x.copy(2, 0, 2, 0, 40), 40);
    }

    private static void copyItems() {
        Due.promise(4, "n ITEMS of a from i on come to b from j on");
        CoalGrate x = withSixThings();
        for (int lane = BYTES; lane <= INTS; lane++) {
            x.row(0, lane, 5);
            x.row(1, lane, 7);
            x.set(0, 1, 9);
            x.set(0, 3, 9);
            x.set(1, 0, 9);
            x.set(1, 6, 9);
            Due.is("three", x.copy(0, 1, 1, 2, 3), 3);
            Due.is("9 . 9 . 9 . 9", nines(x, 1, 7), 0b1010101);
            Due.is("a stays", nines(x, 0, 5), 0b01010);
            Due.is("none", x.copy(0, 1, 1, 1, 0), 0);
            Due.is("b stays", nines(x, 1, 7), 0b1010101);
        }
        x.row(2, SHORTS, 1);
        x.row(3, SHORTS, 1);
        x.set(2, 0, 257);
        x.copy(2, 0, 3, 0, 1);
        Due.is("a short is not cut to a byte", x.judged(3, 0, 1), BAD);
        Due.promise(4, "as they were ahead");
        x.row(4, INTS, 6);
        x.set(4, 0, 9);
        x.set(4, 2, 9);
        Due.is("onto places behind", x.copy(4, 0, 4, 1, 5), 5);
        Due.is("9 9 . 9 . .", nines(x, 4, 6), 0b001011);
        Due.is("onto places ahead", x.copy(4, 1, 4, 0, 5), 5);
        Due.is("9 . 9 . . .", nines(x, 4, 6), 0b000101);
        Due.is("onto the same", x.copy(4, 0, 4, 0, 6), 6);
        Due.is("9 . 9 . . .", nines(x, 4, 6), 0b000101);
        Due.is("onto places behind by two", x.copy(4, 0, 4, 2, 4), 4);
        Due.is("9 . 9 . 9 .", nines(x, 4, 6), 0b010101);
    }

    private static void copyOrder() {
        Due.promise(4, "STORE (ROWS of two LANES)");
        CoalGrate x = new CoalGrate();
        for (int lane = BYTES; lane <= INTS; lane++) {
            x.row(lane, lane, 2);
        }
        for (int a = BYTES; a <= INTS; a++) {
            for (int b = BYTES; b <= INTS; b++) {
                Due.is("lane " + a + " to lane " + b, x.copy(a, 0, b, 0, 1), a == b ? 1 : STORE);
                Due.is("status", x.status(), a == b ? 0 : 5);
            }
        }
        Due.is("none of them", x.copy(0, 0, 1, 0, 0), STORE);
        Due.promise(4, "which comes first: BAD: ROWS; NULL; STORE; PLACE");
        Due.is("a -1, b missing", x.copy(-1, -1, 7, 0, 9), BAD);
        Due.is("a 8, b missing", x.copy(8, -1, 7, 0, 9), BAD);
        Due.is("a missing, b -1", x.copy(7, 0, -1, 0, 0), BAD);
        Due.is("a missing, b 8", x.copy(7, 0, 8, 0, 0), BAD);
        Due.is("far rows", x.copy(LOW, 0, HIGH, 0, 0), BAD);
        Due.is("a there, b 8", x.copy(0, 0, 8, 0, 0), BAD);
        Due.is("a missing, no place", x.copy(7, -1, 0, 0, 1), NULL);
        Due.is("b missing, no place", x.copy(0, 9, 7, 0, 1), NULL);
        Due.is("both missing, fewer than none", x.copy(6, 0, 7, 0, -1), NULL);
        Due.is("status", x.status(), 1);
        Due.is("two lanes, no place", x.copy(0, -1, 1, 9, -1), STORE);
        x.row(7, BYTES, 0);
        x.drop(7);
        Due.is("a dropped one has no lane", x.copy(1, 0, 7, 0, 0), NULL);
    }

    private static void drops() {
        Due.promise(5, "how many ITEMS it had");
        CoalGrate x = withSixThings();
        for (int row = 0; row < 8; row++) {
            x.row(row, INTS, row == 0 ? 0 : 33 + row);
        }
        for (int row = 0; row < 8; row++) {
            Due.is("drop of row " + row, x.drop(row), row == 0 ? 0 : 33 + row);
            Due.is("status", x.status(), 0);
            Due.is("rows", x.count(0), 7 - row);
        }
        Due.promise(5, "A ROW is missing from now on");
        x.row(5, INTS, 2);
        x.row(6, INTS, 2);
        x.set(5, 1, 9);
        Due.is("drop", x.drop(5), 2);
        Due.is("drop again", x.drop(5), NULL);
        Due.is("status", x.status(), 1);
        Due.is("set", x.set(5, 0, 0), NULL);
        Due.is("copy", x.copy(5, 0, 6, 0, 0), NULL);
        Due.is("judged", x.judged(5, 0, 0), NULL);
        Due.is("the other one is there", x.set(6, 1, 4), 4);
        Due.is("laid anew", x.row(5, SHORTS, 2), 2);
        Due.is("0 again", nines(x, 5, 2), 0);
        Due.promise(5, "BAD; NULL");
        Due.is("row -1", x.drop(-1), BAD);
        Due.is("row 8", x.drop(8), BAD);
        Due.is("least row", x.drop(LOW), BAD);
        Due.is("most row", x.drop(HIGH), BAD);
        Due.is("row 0 is missing", x.drop(0), NULL);
        Due.is("row 7 is missing", x.drop(7), NULL);
        Due.is("rows", x.count(0), 2);
    }

    public static void main(String[] args) {
        newObject();
        missingAtFirst();
        rowBounds();
        rowInPlace();
        setBits();
        setPlaces();
        setOrder();
        copyBounds();
        copyItems();
        copyOrder();
        drops();
        Due.end(1, 5);
    }
}
