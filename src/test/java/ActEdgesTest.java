/** Edges of promises 10 to 15: what is done, and undone (terms 2, ACTS). */
public final class ActEdgesTest {
    private static final int NONE = Due.NONE, BAD = Due.BAD, STATE = Due.STATE, FULL = Due.FULL;
    private static final int LOW = Due.LOW, HIGH = Due.HIGH;
    private static final String SORTS = "wkdhm";
    private static final int[] THICK = {8, 16, 4, 6, 10};
    private static final int[] NEED = {40, 80, 20, 15, 50};
    /** A cheese over a coal of 10: core 1, 4, 9, 15 (through), .., skin 70 behind 7 minutes, burnt behind 8. */
    private static final String CHEESE = "g30,0;c0,10;h0;";

    private static void turns() {
        Due.promise(10, "A THING is TURNED: the side that is below. BAD");
        CoalGrate none = new CoalGrate();
        Due.is("no yard", none.turn(0), BAD);
        Due.is("no things", Due.of("g1,0;").turn(0), BAD);
        CoalGrate x = Due.of("g30,0;c0,30;h0;w12;eh0;");
        Due.is("-1", x.turn(-1), BAD);
        Due.is("2", x.turn(2), BAD);
        Due.is("the least", x.turn(LOW), BAD);
        Due.is("the most", x.turn(HIGH), BAD);
        Due.is("no act", x.count(7), 0);
        Due.is("once", x.turn(0), 1);
        Due.is("side", x.thing(0, 4), 1);
        Due.is("twice", x.turn(0), 0);
        Due.is("side", x.thing(0, 4), 0);
        Due.is("aside, the last one", x.turn(1), 1);
        Due.is("the other is not turned", x.thing(0, 4), 0);
        Due.is("acts", x.count(7), 3);
        x.minutes(3);
        Due.is("burnt", x.thing(0, 5), 1);
        Due.is("a burnt one", x.turn(0), 1);
        Due.is("the skins stay with their sides", x.thing(0, 2), 90);
        Due.is("the skins stay with their sides", x.thing(0, 3), 0);
        Due.promise(10, "STATE: it was SERVED");
        CoalGrate y = served();
        Due.is("served", y.turn(0), STATE);
        Due.is("side", y.thing(0, 4), 0);
        Due.is("which comes first", y.turn(2), BAD);
        Due.is("not the other one", y.turn(1), 1);
    }

    /** Thing 0, a cheese, was served; thing 1 lies in cell 5. */
    private static CoalGrate served() {
        CoalGrate x = Due.of("g30,0;c0,10;h0;h5;eh0;");
        x.minutes(4);
        Due.is("served", x.serve(0, 0), 1);
        return x;
    }

    private static void moves() {
        Due.promise(11, "A THING is MOVED to a CELL (12: aside): where it was (0 to 12). BAD");
        Due.is("no yard", new CoalGrate().move(0, 0), BAD);
        CoalGrate x = Due.of("g30,0;w0;h12;");
        Due.is("thing -1", x.move(-1, 1), BAD);
        Due.is("thing 2", x.move(2, 1), BAD);
        Due.is("the least thing", x.move(LOW, 1), BAD);
        Due.is("the most thing", x.move(HIGH, 1), BAD);
        Due.is("cell -1", x.move(0, -1), BAD);
        Due.is("cell 13", x.move(0, 13), BAD);
        Due.is("the least cell", x.move(0, LOW), BAD);
        Due.is("the most cell", x.move(0, HIGH), BAD);
        Due.is("no act", x.count(7), 0);
        int was = 0;
        for (int cell = 0; cell <= 12; cell++) {
            Due.is("to " + cell, x.move(0, cell), was);
            Due.is("it lies there", x.thing(0, 0), cell);
            was = cell;
        }
        Due.is("aside to aside", x.move(0, 12), 12);
        Due.is("back", x.move(0, 0), 12);
        Due.is("acts, where it lay already, too", x.count(7), 15);
        Due.promise(11, "STATE: another one lies there; aside is room for all");
        CoalGrate y = Due.of("g30,0;w0;h11;m12;");
        Due.is("where 1 lies", y.move(0, 11), STATE);
        Due.is("where 0 lies", y.move(1, 0), STATE);
        Due.is("from aside", y.move(2, 11), STATE);
        Due.is("it lies aside yet", y.thing(2, 0), 12);
        Due.is("its own", y.move(0, 0), 0);
        Due.is("aside", y.move(0, 12), 0);
        Due.is("aside", y.move(1, 12), 11);
        Due.is("left by 0", y.move(2, 0), 12);
        Due.is("left by 1", y.move(0, 11), 12);
        Due.is("taken by 0", y.move(1, 11), STATE);
    }

    private static void movesOfServed() {
        Due.promise(11, "STATE: it was SERVED");
        CoalGrate x = served();
        Due.is("to a free cell", x.move(0, 7), STATE);
        Due.is("to its old cell", x.move(0, 0), STATE);
        Due.is("to another one's", x.move(0, 5), STATE);
        Due.is("aside", x.move(0, 12), STATE);
        Due.promise(11, "which comes first: BAD, STATE");
        Due.is("served, cell 13", x.move(0, 13), BAD);
        Due.is("served, cell -1", x.move(0, -1), BAD);
        Due.is("no such", x.move(2, 5), BAD);
        Due.promise(11, "a SERVED one lies nowhere: its CELL is free");
        Due.is("free", x.move(1, 0), 5);
        Due.promise(11, "sides, SKINS, CORE stay");
        CoalGrate y = Due.of(CHEESE);
        y.minutes(3);
        y.turn(0);
        y.move(0, 6);
        Due.are("a cheese", new int[] {y.thing(0, 1), y.thing(0, 2), y.thing(0, 3), y.thing(0, 4)}, 9, 30, 0, 1);
    }

    private static void coals() {
        Due.promise(12, "A coal of FIRE (1 to 30) is ADDED in a CELL: how many COALS there are. BAD");
        CoalGrate x = Due.of("g30,0;");
        Due.is("cell -1", x.coal(-1, 1), BAD);
        Due.is("cell 12", x.coal(12, 1), BAD);
        Due.is("the least cell", x.coal(LOW, 1), BAD);
        Due.is("the most cell", x.coal(HIGH, 1), BAD);
        Due.is("fire 0", x.coal(0, 0), BAD);
        Due.is("fire -1", x.coal(0, -1), BAD);
        Due.is("fire 31", x.coal(0, 31), BAD);
        Due.is("the least fire", x.coal(0, LOW), BAD);
        Due.is("the most fire", x.coal(0, HIGH), BAD);
        Due.is("no act", x.count(7), 0);
        Due.is("cell 0, fire 1", x.coal(0, 1), 1);
        Due.is("cell 11, fire 30", x.coal(11, 30), 2);
        Due.is("in the same cell", x.coal(11, 30), 3);
        Due.is("acts", x.count(7), 3);
        Due.promise(12, "FRESH for 2 MINUTES");
        Due.are("coal 1", new int[] {x.ember(1, 0), x.ember(1, 1), x.ember(1, 2)}, 11, 30, 2);
        Due.promise(12, "FULL: 8");
        for (int k = 4; k <= 8; k++) {
            Due.is("coal", x.coal(k, 5), k);
        }
        Due.is("the ninth", x.coal(0, 1), FULL);
        Due.is("coals", x.count(2), 8);
        Due.is("acts", x.count(7), 8);
        Due.promise(12, "which comes first: STATE, BAD, FULL");
        Due.is("full, cell 12", x.coal(12, 1), BAD);
        Due.is("full, fire 0", x.coal(0, 0), BAD);
        CoalGrate none = new CoalGrate();
        Due.is("no yard", none.coal(0, 1), STATE);
        Due.is("no yard, cell 12", none.coal(12, 1), STATE);
        Due.is("no yard, fire 31", none.coal(0, 31), STATE);
        Due.promise(12, "one that is undone makes room; one that is out does not");
        Due.is("undone", x.undo(), 7);
        Due.is("the eighth again", x.coal(0, 1), 8);
        CoalGrate y = Due.of("g1,0;c0,1;c0,1;c0,1;c0,1;c0,1;c0,1;c0,1;");
        y.minutes(3);
        Due.is("all are out", y.count(6), 0);
        Due.is("the eighth", y.coal(0, 1), 8);
        Due.is("the ninth", y.coal(0, 1), FULL);
    }

    private static void water() {
        Due.promise(13, "FIRE of each coal 3 less (0 at least): by how much all FIRE is less");
        for (int fire = 1; fire <= 5; fire++) {
            CoalGrate x = Due.of("g30,0;c0," + fire + ";");
            Due.is("fire " + fire, x.water(), Math.min(3, fire));
            Due.is("left of " + fire, x.ember(0, 1), Math.max(0, fire - 3));
        }
        CoalGrate x = Due.of("g30,0;c0,1;c1,2;c2,3;c3,4;c4,30;c5,30;c6,30;");
        x.coal(7, 30);
        Due.is("of all, a fresh one, too", x.water(), 1 + 2 + 3 + 3 + 3 + 3 + 3 + 3);
        Due.is("the fresh one", x.ember(7, 1), 27);
        Due.is("it is fresh yet", x.ember(7, 2), 2);
        Due.is("all fire", x.count(6), 1 + 27 * 4);
        Due.is("again", x.water(), 1 + 3 * 4);
        Due.is("coals", x.count(2), 8);
        Due.promise(13, "WATER is an ACT, even if there is nothing to quench");
        CoalGrate y = Due.of("g30,0;");
        Due.is("no coals", y.water(), 0);
        Due.is("an act", y.count(7), 1);
        Due.is("again", y.water(), 0);
        Due.is("acts", y.count(7), 2);
        Due.promise(13, "STATE: no YARD");
        Due.is("no yard", new CoalGrate().water(), STATE);
    }

    /** A skin of THICK, by wind alone, then a cell without heat: the core is 1 more by each minute. */
    private static CoalGrate byOnes(int k, String eaters) {
        boolean thick = THICK[k] > 9;
        CoalGrate x = Due.of("g30," + (thick ? THICK[k] / 2 : THICK[k]) + ";" + SORTS.charAt(k) + "0;" + eaters);
        x.minutes(thick ? 2 : 1);
        x.move(0, 1);
        return x;
    }

    private static void servesBad() {
        Due.promise(14, "BAD");
        Due.is("no yard", new CoalGrate().serve(0, 0), BAD);
        CoalGrate x = Due.of("g30,0;c0,10;h0;h1;eh0;ew0;");
        x.minutes(4);
        Due.is("thing -1", x.serve(-1, 0), BAD);
        Due.is("thing 2", x.serve(2, 0), BAD);
        Due.is("the least thing", x.serve(LOW, 0), BAD);
        Due.is("the most thing", x.serve(HIGH, 0), BAD);
        Due.is("eater -1", x.serve(0, -1), BAD);
        Due.is("eater 2", x.serve(0, 2), BAD);
        Due.is("the least eater", x.serve(0, LOW), BAD);
        Due.is("the most eater", x.serve(0, HIGH), BAD);
        Due.promise(14, "which comes first: BAD, STATE");
        Due.is("not through, eater 2", x.serve(1, 2), BAD);
        Due.is("served", x.serve(0, 0), 1);
        Due.is("served, eater 2", x.serve(0, 2), BAD);
        Due.is("thing 2, eater served", x.serve(2, 0), BAD);
        Due.is("no eaters", Due.of(CHEESE).serve(0, 0), BAD);
    }

    private static void servesState() {
        Due.promise(14, "STATE: it was SERVED");
        CoalGrate x = Due.of("g30,0;c0,10;h0;eh0;eh0;");
        x.minutes(4);
        Due.is("first", x.serve(0, 0), 1);
        Due.is("to another one", x.serve(0, 1), STATE);
        Due.is("to the same", x.serve(0, 0), STATE);
        Due.is("one was", x.count(5), 1);
        Due.promise(14, "STATE: it is not THROUGH");
        for (int k = 0; k < 5; k++) {
            CoalGrate y = byOnes(k, "e" + SORTS.charAt(k) + "0;");
            Due.pass(y, NEED[k] - 2);
            Due.is("one less than its need", y.serve(0, 0), STATE);
            y.minutes(1);
            Due.is("its need", y.serve(0, 0), 1);
        }
        Due.promise(14, "STATE: it is BURNT");
        CoalGrate z = Due.of(CHEESE + "eh0;");
        z.minutes(8);
        Due.is("through", z.thing(0, 6), 1);
        Due.is("burnt", z.serve(0, 0), STATE);
        z.undo();
        Due.is("at its limit", z.serve(0, 0), 1);
        Due.promise(14, "STATE: the EATER was SERVED");
        CoalGrate u = Due.of("g30,0;c0,10;c11,10;h0;h11;eh0;");
        u.minutes(4);
        Due.is("first", u.serve(1, 0), 1);
        Due.is("second", u.serve(0, 0), STATE);
        Due.is("what he has", u.eater(0, 2), 1);
        Due.is("it lies there yet", u.thing(0, 0), 0);
    }

    private static void servesComeAndSort() {
        Due.promise(14, "STATE: the EATER has not come");
        CoalGrate x = Due.of("g30,0;c0,10;h0;eh5;eh4;eh6;");
        x.minutes(4);
        Due.is("a minute early", x.serve(0, 0), STATE);
        Due.is("two minutes early", x.serve(0, 2), STATE);
        x.minutes(1);
        Due.is("just come", x.serve(0, 0), 1);
        x.undo();
        Due.is("come before", x.serve(0, 1), 1);
        Due.promise(14, "STATE: the EATER wants another SORT");
        for (int k = 0; k < 5; k++) {
            CoalGrate y = byOnes(k, "ew0;ek0;ed0;eh0;");
            CoalGrate z = byOnes(k, "em0;");
            Due.pass(y, NEED[k]);
            Due.pass(z, NEED[k]);
            for (int e = 0; e < 4; e++) {
                Due.is(SORTS.charAt(k) + " for " + SORTS.charAt(e), y.serve(0, e), k == e ? 1 : STATE);
                if (k == e) {
                    y.undo();
                }
            }
            Due.is(SORTS.charAt(k) + " for m", z.serve(0, 0), k == 4 ? 1 : STATE);
        }
        Due.promise(14, "A THING is SERVED to an EATER: how many were");
        CoalGrate s = Due.of("g30,0;c0,10;c3,10;c8,10;c11,10;h0;h3;h8;h11;eh0;eh0;eh0;eh0;");
        s.minutes(4);
        s.move(2, 12);
        Due.is("one", s.serve(3, 0), 1);
        Due.is("two", s.serve(0, 3), 2);
        Due.is("three, from aside", s.serve(2, 1), 3);
        Due.is("four", s.serve(1, 2), 4);
        Due.are("who has what", new int[] {s.eater(0, 2), s.eater(1, 2), s.eater(2, 2), s.eater(3, 2)}, 3, 2, 1, 0);
        Due.is("undone", s.undo(), 4 + 1 + 3);
        Due.is("three", s.count(5), 3);
        Due.is("four again", s.serve(1, 2), 4);
    }

    private static void undoOfEach() {
        Due.promise(15, "STATE: none");
        Due.is("no yard", new CoalGrate().undo(), STATE);
        CoalGrate x = Due.of("g2,0;c0,10;h0;w12;eh0;");
        Due.is("a new yard", x.undo(), STATE);
        Due.promise(15, "each can be undone, the latest first: how many can be undone yet");
        x.minutes(5);
        x.coal(2, 4);
        x.turn(1);
        x.move(1, 7);
        Due.is("water", x.water(), 3 + 3);
        Due.is("served", x.serve(0, 0), 1);
        Due.is("acts", x.count(7), 10);
        Due.is("the serving", x.undo(), 9);
        Due.are("as ahead", new int[] {x.count(5), x.thing(0, 0), x.eater(0, 2)}, 0, 0, NONE);
        Due.is("the water", x.undo(), 8);
        Due.are("as ahead", new int[] {x.ember(0, 1), x.ember(1, 1), x.ember(1, 2)}, 8, 4, 2);
        Due.is("the moving", x.undo(), 7);
        Due.is("as ahead", x.thing(1, 0), 12);
        Due.is("the turning", x.undo(), 6);
        Due.is("as ahead", x.thing(1, 4), 0);
        Due.is("the coal", x.undo(), 5);
        Due.is("as ahead", x.count(2), 1);
        Due.is("a minute", x.undo(), 4);
        Due.are("as ahead", new int[] {x.count(4), x.thing(0, 2), x.ember(0, 1)}, 4, 10 + 10 + 9 + 9, 8);
        Due.is("a minute", x.undo(), 3);
        Due.are("as ahead", new int[] {x.count(4), x.thing(0, 2), x.ember(0, 1)}, 3, 10 + 10 + 9, 9);
        Due.is("a minute", x.undo(), 2);
        Due.is("a minute", x.undo(), 1);
        Due.is("a minute", x.undo(), 0);
        Due.are("as at first", new int[] {x.count(4), x.thing(0, 1), x.thing(0, 2), x.ember(0, 1)}, 0, 0, 0, 10);
        Due.is("none", x.undo(), STATE);
        Due.is("none again", x.undo(), STATE);
        Due.is("a minute anew", x.minutes(1), 1);
        Due.is("undone", x.undo(), 0);
    }

    private static void undoOfMany() {
        Due.promise(15, "24 at most are kept, of more the oldest is forgotten");
        for (int acts = 22; acts <= 80; acts++) {
            CoalGrate x = Due.of("g30,0;w12;h12;");
            for (int k = 0; k < acts; k++) {
                x.move(k % 2, (k + 1) * 5 % 13);
                Due.is("kept of " + (k + 1), x.count(7), Math.min(24, k + 1));
            }
            int kept = Math.min(24, acts);
            for (int k = acts - 1; k >= acts - kept; k--) {
                Due.is("undone", x.undo(), k - (acts - kept));
                Due.is("where it was", x.thing(k % 2, 0), k < 2 ? 12 : (k - 1) * 5 % 13);
            }
            Due.is("the others are forgotten", x.undo(), STATE);
            Due.is("kept", x.count(7), 0);
        }
        Due.promise(15, "acts behind an undone one stand in its place");
        CoalGrate y = Due.of("g30,0;w12;");
        y.minutes(24);
        y.minutes(6);
        for (int k = 0; k < 10; k++) {
            y.undo();
        }
        Due.is("14 are left", y.count(7), 14);
        y.minutes(9);
        Due.is("23", y.count(7), 23);
        y.turn(0);
        y.turn(0);
        Due.is("24", y.count(7), 24);
        for (int k = 23; k >= 0; k--) {
            Due.is("undone", y.undo(), k);
        }
        Due.is("minute 7", y.count(4), 7);
        Due.is("none", y.undo(), STATE);
    }

    private static void whatIsNoAct() {
        Due.promise(15, "what is refused is no ACT, nor what is foretold or asked");
        CoalGrate x = served();
        x.row(0, 0, 2);
        int acts = x.count(7);
        x.minutes(0);
        x.turn(0);
        x.turn(9);
        x.move(0, 3);
        x.move(1, 13);
        x.coal(12, 1);
        x.serve(0, 0);
        x.serve(1, 0);
        x.hand(9, 0);
        x.judged(0, 0, 2);
        x.ahead(1, 9, 0);
        x.flips(1, 9, 0);
        x.start(1, 0, 9);
        x.fuelFor(1, 9);
        x.image(0);
        x.ask(1, 0);
        x.as(1, 2);
        x.feed('g');
        x.yard();
        Due.is("acts", x.count(7), acts);
        Due.is("the serving is the latest", x.undo(), acts - 1);
        Due.is("it lies there again", x.thing(0, 0), 0);
    }

    public static void main(String[] args) {
        turns();
        moves();
        movesOfServed();
        coals();
        water();
        servesBad();
        servesState();
        servesComeAndSort();
        undoOfEach();
        undoOfMany();
        whatIsNoAct();
        Due.end(10, 15);
    }
}
