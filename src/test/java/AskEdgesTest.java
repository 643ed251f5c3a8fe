/** Edges of promises 34 to 39: KINDS, ASKS, THE TRACE, counts and status() (terms 3 and 4). */
public final class AskEdgesTest {
    private static final int NONE = Due.NONE, BAD = Due.BAD, STATE = Due.STATE, FULL = Due.FULL;
    private static final int NULL = Due.NULL, PLACE = Due.PLACE, KIND = Due.KIND, SIZE = Due.SIZE, STORE = Due.STORE;
    private static final int LOW = Due.LOW, HIGH = Due.HIGH;
    private static final String ALL_SORTS = "g30,0;w0;k1;d2;h3;m12;";

    private static void kinds() {
        Due.promise(34, "The KIND of a THING, as told (1 to 5). BAD");
        CoalGrate x = Due.of(ALL_SORTS);
        Due.is("-1", x.kind(-1), BAD);
        for (int thing = 0; thing < 5; thing++) {
            Due.is("thing " + thing, x.kind(thing), thing + 1);
        }
        Due.is("5", x.kind(5), BAD);
        Due.is("the least", x.kind(LOW), BAD);
        Due.is("the most", x.kind(HIGH), BAD);
        Due.is("no yard", new CoalGrate().kind(0), BAD);
        Due.is("the sixth", Due.of("g1,0;w12;w12;w12;w12;w12;m12;").kind(5), 5);
        Due.is("no seventh", Due.of("g1,0;w12;w12;w12;w12;w12;m12;").kind(6), BAD);
        Due.promise(34, "of a SERVED one, too: it stays as it is");
        CoalGrate s = served();
        Due.is("served", s.kind(0), 4);
        Due.is("as cheese", s.as(0, 4), 0);
        Due.is("as a sausage", s.as(0, 1), KIND);
        Due.is("its size", s.ask(0, 0), 15 - 100);
    }

    private static CoalGrate served() {
        CoalGrate x = Due.of("g30,0;c0,10;h0;eh0;");
        x.minutes(4);
        Due.is("served", x.serve(0, 0), 1);
        return x;
    }

    private static void as() {
        Due.promise(35, "A THING is taken as one of a KIND (0 .. 5): its number. KIND: it is no such one");
        boolean[][] is = {{true, true, false, false, false, false}, {true, true, true, false, false, false},
            {true, true, false, true, false, false}, {true, false, false, false, true, false},
            {true, false, false, false, true, true}};
        CoalGrate x = Due.of(ALL_SORTS);
        for (int thing = 0; thing < 5; thing++) {
            for (int kind = 0; kind <= 5; kind++) {
                Due.is(thing + " as " + kind, x.as(thing, kind), is[thing][kind] ? thing : KIND);
                Due.is("status", x.status(), is[thing][kind] ? 0 : 3);
            }
        }
        Due.promise(35, "BAD");
        x.as(0, 5);
        Due.is("kind -1", x.as(0, -1), BAD);
        Due.is("kind 6", x.as(0, 6), BAD);
        Due.is("the least kind", x.as(0, LOW), BAD);
        Due.is("the most kind", x.as(0, HIGH), BAD);
        Due.is("thing -1", x.as(-1, 0), BAD);
        Due.is("thing 5", x.as(5, 0), BAD);
        Due.is("the least thing", x.as(LOW, 0), BAD);
        Due.is("the most thing", x.as(HIGH, 0), BAD);
        Due.is("which comes first: thing 5, no such kind", x.as(5, 6), BAD);
        Due.is("no yard", new CoalGrate().as(0, 0), BAD);
        Due.is("the status stays", x.status(), 3);
    }

    private static void traceDue(CoalGrate x, int... bodies) {
        Due.is("trace -1", x.trace(-1), NONE);
        for (int i = 0; i < bodies.length; i++) {
            Due.is("trace " + i, x.trace(i), bodies[i]);
        }
        for (int i = bodies.length; i <= 17; i++) {
            Due.is("trace " + i, x.trace(i), NONE);
        }
        Due.is("the least", x.trace(LOW), NONE);
        Due.is("the most", x.trace(HIGH), NONE);
    }

    private static void asks() {
        Due.promise(36, "An ASK (0, 1) of a THING, by BODIES, told for the KIND, the nearest KIND, or lent");
        CoalGrate x = Due.of("g30,0;c0,10;c2,16;h8;w0;k2;d10;h4;m1;");
        x.minutes(3);
        Due.is("size of a sausage", x.ask(1, 0), 7 + (1 + 36));
        Due.is("mark of a sausage", x.ask(1, 1), 1 + 36);
        Due.is("size of chicken", x.ask(2, 0), -(6 + 2 * (2 + 54)));
        Due.is("mark of chicken", x.ask(2, 1), 2 * (2 + 54));
        Due.is("size of a thin one", x.ask(3, 0), 0 + (3 + 0 - 1000));
        Due.is("mark of a thin one", x.ask(3, 1), 3 + 0 - 1000);
        Due.is("size of cheese", x.ask(4, 0), 3 - 100);
        Due.is("mark of cheese", x.ask(4, 1), 4 - (3 - 100));
        Due.is("size of corn", x.ask(5, 0), 2 * (6 - 100));
        Due.is("mark of corn", x.ask(5, 1), 5 - 2 * (6 - 100));
        Due.is("thing 0", x.ask(0, 1), 0 - (0 - 100));
        Due.promise(36, "SKIN below: of the side that lies there");
        x.turn(1);
        Due.is("the cold one", x.ask(1, 1), 1);
        x.minutes(1);
        Due.is("10 now", x.ask(1, 1), 1 + 10);
        Due.promise(36, "BAD");
        Due.is("what -1", x.ask(1, -1), BAD);
        Due.is("what 2", x.ask(1, 2), BAD);
        Due.is("the least what", x.ask(1, LOW), BAD);
        Due.is("the most what", x.ask(1, HIGH), BAD);
        Due.is("thing -1", x.ask(-1, 0), BAD);
        Due.is("thing 6", x.ask(6, 0), BAD);
        Due.is("the least thing", x.ask(LOW, 0), BAD);
        Due.is("the most thing", x.ask(HIGH, 0), BAD);
        Due.is("no yard", new CoalGrate().ask(0, 0), BAD);
        Due.is("asking changes no status", x.status(), 0);
    }

    private static void traces() {
        Due.promise(37, "Number i of THE TRACE; NONE");
        CoalGrate x = new CoalGrate();
        traceDue(x);
        Due.read(x, ALL_SORTS);
        traceDue(x);
        int[][] size = {{11, 10, 21, 20}, {12, 11, 10, 24, 21, 20}, {11, 10, 22, 21, 20}, {13, 10}, {14, 13, 10}};
        int[][] mark = {{21, 20}, {24, 21, 20}, {22, 21, 20}, {23, 20, 13, 10}, {23, 20, 14, 13, 10}};
        for (int thing = 0; thing < 5; thing++) {
            x.ask(thing, 0);
            traceDue(x, size[thing]);
            x.ask(thing, 1);
            traceDue(x, mark[thing]);
        }
        Due.promise(36, "THE TRACE is empty ahead of it");
        x.ask(1, 0);
        traceDue(x, 12, 11, 10, 24, 21, 20);
        x.ask(3, 0);
        traceDue(x, 13, 10);
        Due.promise(37, "what is refused changes nothing: THE TRACE stays");
        x.ask(0, 2);
        x.ask(5, 0);
        traceDue(x, 13, 10);
        Due.promise(37, "THE TRACE stays, too, when a YARD is read, or restored, or an ACT undone");
        x.image(0);
        x.minutes(2);
        x.undo();
        x.restore(0);
        Due.read(x, "g1,0;");
        traceDue(x, 13, 10);
    }

    private static void counts() {
        Due.promise(38, "How many: 0 .. 8. BAD");
        CoalGrate x = new CoalGrate();
        Due.is("-1", x.count(-1), BAD);
        Due.is("9", x.count(9), BAD);
        Due.is("the least", x.count(LOW), BAD);
        Due.is("the most", x.count(HIGH), BAD);
        Due.are("at first", all(x), 0, 0, 0, 0, 0, 0, 0, 0, 0);
        Due.read(x, "g1,0;c0,10;c1,5;h0;w3;m12;eh0;eh0;eh0;eh0;");
        Due.are("a yard", all(x), 0, 3, 2, 4, 0, 0, 15, 0, 0);
        x.row(5, 0, 0);
        x.row(2, 2, 40);
        x.minutes(5);
        x.serve(0, 2);
        Due.tell(x, "abc");
        Due.are("all", all(x), 2, 3, 2, 4, 5, 1, 5, 6, 3);
        x.coal(3, 7);
        Due.are("FIRE of all COALS, a fresh one, too", all(x), 2, 3, 3, 4, 5, 1, 12, 7, 3);
        x.undo();
        x.undo();
        Due.are("undone", all(x), 2, 3, 2, 4, 5, 0, 5, 5, 3);
        x.drop(5);
        x.minutes(24);
        Due.are("24 ACTS at most", all(x), 1, 3, 2, 4, 29, 0, 0, 24, 3);
        x.yard();
        Due.are("the tape is empty", all(x), 1, 3, 2, 4, 29, 0, 0, 24, 0);
        for (int row = 0; row < 8; row++) {
            x.row(row, 0, 1);
        }
        Due.is("8 rows", x.count(0), 8);
    }

    private static int[] all(CoalGrate x) {
        int[] counts = new int[9];
        for (int what = 0; what < 9; what++) {
            counts[what] = x.count(what);
        }
        return counts;
    }

    private static void statusOfFindings() {
        Due.promise(39, "the number of its FINDING; 0: it had none, or there was none");
        CoalGrate x = new CoalGrate();
        Due.is("there was none", x.status(), 0);
        Due.is("SIZE", x.row(0, 0, -1), SIZE);
        Due.is("4", x.status(), 4);
        Due.is("twice told", x.status(), 4);
        Due.is("row", x.row(0, 0, 2), 2);
        Due.is("0", x.status(), 0);
        Due.is("NULL", x.set(1, 0, 0), NULL);
        Due.is("1", x.status(), 1);
        Due.is("set", x.set(0, 0, 0), 0);
        Due.is("0", x.status(), 0);
        Due.is("PLACE", x.set(0, 2, 0), PLACE);
        Due.is("2", x.status(), 2);
        Due.is("copy", x.copy(0, 0, 0, 0, 2), 2);
        Due.is("0", x.status(), 0);
        x.row(1, 1, 2);
        Due.is("STORE", x.copy(0, 0, 1, 0, 1), STORE);
        Due.is("5", x.status(), 5);
        Due.is("drop", x.drop(1), 2);
        Due.is("0", x.status(), 0);
        Due.is("NULL", x.drop(1), NULL);
        Due.is("1", x.status(), 1);
        Due.read(x, "g1,0;w0;");
        Due.is("judged", x.judged(0, 0, 1), 0);
        Due.is("0", x.status(), 0);
        Due.is("PLACE", x.judged(0, 2, 1), PLACE);
        Due.is("2", x.status(), 2);
        Due.is("as", x.as(0, 1), 0);
        Due.is("0", x.status(), 0);
        Due.is("NULL", x.judged(1, 0, 1), NULL);
        Due.is("1", x.status(), 1);
        Due.is("KIND", x.as(0, 2), KIND);
        Due.is("3", x.status(), 3);
    }

    /** A call that was BAD, STATE or FULL, or that has neither a ROW nor is as(), leaves the status as it was. */
    private static void statusStays() {
        Due.promise(39, "Of the latest call with a ROW, or as(), that was not BAD, STATE, FULL");
        CoalGrate none = new CoalGrate();
        none.drop(0);
        none.judged(0, 0, 0);
        Due.is("STATE", none.status(), 1);
        none.as(0, 0);
        Due.is("BAD", none.status(), 1);
        CoalGrate x = Due.of("g1,0;c0,9;w0;ew0;");
        x.row(0, 2, 1);
        x.set(0, 0, 7);
        x.as(0, 5);
        Due.are("BAD", new int[] {x.row(8, 0, 0), x.row(0, 3, 0), x.row(0, 0, 41), x.set(8, 0, 0), x.copy(8, 0, 0, 0, 0),
            x.copy(0, 0, 8, 0, 0), x.drop(8), x.judged(8, 0, 0), x.judged(0, 0, 41), x.judged(0, 0, 1), x.as(1, 0),
            x.as(0, 6)}, BAD, BAD, BAD, BAD, BAD, BAD, BAD, BAD, BAD, BAD, BAD, BAD);
        Due.is("3 yet", x.status(), 3);
        othersWithout(x);
        Due.is("3 yet", x.status(), 3);
    }

    private static void othersWithout(CoalGrate x) {
        x.feed('g');
        x.feed(-1);
        x.yard();
        x.fault();
        x.minutes(1);
        x.minutes(0);
        x.turn(0);
        x.move(0, 5);
        x.coal(0, 5);
        x.water();
        x.serve(0, 0);
        x.undo();
        x.thing(0, 0);
        x.thing(9, 0);
        x.eater(0, 0);
        x.ember(0, 0);
        x.heat(0);
        x.ahead(0, 1, 0);
        x.heatAhead(0, 1);
        x.ready(0);
        x.where(0);
        x.inTime(0, 1);
        x.flips(0, 1, 0);
        x.start(0, 0, 1);
        x.fuelFor(0, 1);
        x.servable(0, -1);
        x.hand(1, 0);
        x.fuel();
        x.image(0);
        x.restore(0);
        x.restore(1);
        x.kind(0);
        x.ask(0, 0);
        x.trace(0);
        x.count(0);
        Due.read(x, "g1,0;w0;");
        for (int k = 0; k < 8; k++) {
            x.coal(0, 1);
        }
        Due.is("FULL", x.coal(0, 1), FULL);
        Due.is("STATE", new CoalGrate().water(), STATE);
    }

    public static void main(String[] args) {
        kinds();
        as();
        asks();
        traces();
        counts();
        statusOfFindings();
        statusStays();
        Due.end(34, 39);
    }
}
