/** Edges of promises 28 to 33: what is FORETOLD of the whole YARD (terms 3), and IMAGES of it. */
public final class WholeYardEdgesTest {
    private static final int NONE = Due.NONE, BAD = Due.BAD, STATE = Due.STATE;
    private static final int NULL = Due.NULL, PLACE = Due.PLACE;
    private static final int LOW = Due.LOW, HIGH = Due.HIGH;
    /** A cheese over a coal of 10: core 1, 4, 9, 15 (through), .., skin 70 behind 7 minutes, burnt behind 8. */
    private static final String CHEESE = "g30,0;c0,10;h0;";

    private static void servableBounds() {
        Due.promise(28, "SERVABLE behind n MINUTES (0 to 60)");
        CoalGrate x = Due.of("g12,0;m0;em60;em0;");
        x.coal(0, 1);
        x.minutes(1);
        Due.is("n -1", x.servable(-1, -1), BAD);
        Due.is("n 0", x.servable(0, -1), 0);
        Due.is("n 59", x.servable(59, -1), 0);
        Due.is("n 60: a slow corn is through", x.servable(60, -1), 1);
        Due.is("n 61", x.servable(61, -1), BAD);
        Due.is("the least n", x.servable(LOW, -1), BAD);
        Due.is("the most n", x.servable(HIGH, -1), BAD);
        Due.promise(28, "how many (eater = -1), which THING (NONE). BAD");
        Due.is("eater -2", x.servable(60, -2), BAD);
        Due.is("eater 0", x.servable(60, 0), 0);
        Due.is("eater 1", x.servable(60, 1), NONE);
        Due.is("eater 2", x.servable(60, 2), BAD);
        Due.is("the least eater", x.servable(60, LOW), BAD);
        Due.is("the most eater", x.servable(60, HIGH), BAD);
        CoalGrate y = Due.of("g30,0;h12;");
        Due.is("no eaters: how many", y.servable(0, -1), 0);
        Due.is("no eaters: eater 0", y.servable(0, 0), BAD);
        CoalGrate z = Due.of("g30,0;eh0;eh0;eh0;eh0;");
        Due.is("no things: how many", z.servable(0, -1), 0);
        Due.is("no things: eater 3", z.servable(0, 3), NONE);
        Due.is("no things: eater 4", z.servable(0, 4), BAD);
        Due.promise(28, "STATE: no YARD (ahead of BAD)");
        CoalGrate none = new CoalGrate();
        Due.is("no yard", none.servable(0, -1), STATE);
        Due.is("no yard, n 61", none.servable(61, -1), STATE);
        Due.is("no yard, eater -2", none.servable(0, -2), STATE);
    }

    private static void servableWhen() {
        Due.promise(28, "of THINGS that are THROUGH and not BURNT then");
        CoalGrate x = Due.of(CHEESE + "eh0;");
        Due.is("3: core 9", x.servable(3, -1), 0);
        Due.is("4: core 15", x.servable(4, -1), 1);
        Due.is("7: skin 70", x.servable(7, 0), 0);
        Due.is("8: burnt", x.servable(8, 0), NONE);
        x.minutes(4);
        x.move(0, 12);
        Due.is("aside, through", x.servable(60, 0), 0);
        Due.promise(28, "EATERS who have come (their MINUTE is that, or is gone)");
        CoalGrate y = Due.of("g30,0;c0,10;h0;eh5;");
        Due.is("4: he comes in 5", y.servable(4, -1), 0);
        Due.is("5: he is there", y.servable(5, -1), 1);
        Due.is("6: he was there", y.servable(6, 0), 0);
        y.minutes(4);
        Due.is("0: minute 4", y.servable(0, 0), NONE);
        Due.is("1: minute 5", y.servable(1, 0), 0);
        CoalGrate z = Due.of("g30,0;c0,10;h0;eh60;");
        z.minutes(4);
        z.move(0, 12);
        Due.is("minute 59", z.servable(55, 0), NONE);
        Due.is("minute 60", z.servable(56, 0), 0);
        Due.promise(28, "and were not SERVED");
        CoalGrate s = Due.of("g30,0;c0,10;c3,10;h0;h3;eh0;eh0;");
        s.minutes(4);
        Due.is("two", s.servable(0, -1), 2);
        s.serve(1, 1);
        Due.is("one is left", s.servable(0, -1), 1);
        Due.is("for eater 0", s.servable(0, 0), 0);
        Due.is("eater 1 has his", s.servable(0, 1), NONE);
        s.serve(0, 0);
        Due.is("none is left", s.servable(0, -1), 0);
    }

    private static void servableWays() {
        Due.promise(28, "of the SORT that each wants, one to each: the most that can be SERVED");
        CoalGrate x = Due.of("g30,9;c1,9;c11,10;d1;w12;h11;h12;ew0;ed0;eh0;eh0;");
        x.minutes(4);
        Due.is("a thin one, a cheese", x.servable(0, -1), 2);
        Due.is("a thin one is no sausage for him", x.servable(0, 0), NONE);
        Due.is("the thin one", x.servable(0, 1), 0);
        Due.is("the cheese", x.servable(0, 2), 2);
        Due.is("no second cheese", x.servable(0, 3), NONE);
        CoalGrate more = Due.of("g30,6;h0;h4;h8;eh0;");
        more.minutes(5);
        Due.is("three cheeses, one eater", more.servable(0, -1), 1);
        Due.is("the first", more.servable(0, 0), 0);
        CoalGrate full = Due.of("g30,0;c0,10;c3,10;c8,10;c11,10;h0;h3;w12;w12;h8;h11;eh0;eh0;eh0;eh0;");
        full.minutes(4);
        Due.is("four", full.servable(0, -1), 4);
        Due.are("each has one", new int[] {full.servable(0, 0), full.servable(0, 1), full.servable(0, 2),
            full.servable(0, 3)}, 0, 1, 4, 5);
        Due.promise(28, "of several ways the first (by EATERS, THINGS the least first, none as the last)");
        CoalGrate y = Due.of("g30,0;c0,10;c11,10;w12;h11;h0;eh9;eh0;eh0;eh0;");
        Due.is("4 minutes: two", y.servable(4, -1), 2);
        Due.are("4 minutes", new int[] {y.servable(4, 0), y.servable(4, 1), y.servable(4, 2), y.servable(4, 3)},
            NONE, 1, 2, NONE);
        y.minutes(4);
        y.move(1, 12);
        y.move(2, 12);
        Due.are("9 minutes: the first has come", new int[] {y.servable(5, 0), y.servable(5, 1), y.servable(5, 2),
            y.servable(5, 3)}, 1, 2, NONE, NONE);
    }

    private static void handBounds() {
        Due.promise(29, "HAND for n MINUTES (1 to 60)");
        CoalGrate x = Due.of(CHEESE);
        Due.is("n -1", x.hand(-1, 0), BAD);
        Due.is("n 0", x.hand(0, 0), BAD);
        Due.is("n 1", x.hand(1, 0), 0);
        Due.is("n 60", x.hand(60, 0), 1);
        Due.is("n 61", x.hand(61, 0), BAD);
        Due.is("the least n", x.hand(LOW, 0), BAD);
        Due.is("the most n", x.hand(HIGH, 0), BAD);
        Due.promise(29, "BURNT ones (what = 0), THROUGH ones (1), how often (2). BAD");
        Due.is("what -1", x.hand(1, -1), BAD);
        Due.is("what 2", x.hand(1, 2), 0);
        Due.is("what 3", x.hand(1, 3), BAD);
        Due.is("the least what", x.hand(1, LOW), BAD);
        Due.is("the most what", x.hand(1, HIGH), BAD);
        Due.is("4: core 13", x.hand(4, 1), 0);
        Due.is("5: core 20", x.hand(5, 1), 1);
        Due.is("16: skins 66 and 64", x.hand(16, 0), 0);
        Due.is("16: through", x.hand(16, 1), 1);
        Due.is("17: a skin of 74", x.hand(17, 0), 1);
        Due.is("17: not through and not burnt", x.hand(17, 1), 0);
        Due.is("nothing changes", x.thing(0, 4) + x.thing(0, 2) + x.count(4), 0);
        Due.promise(29, "STATE: no YARD (ahead of BAD)");
        CoalGrate none = new CoalGrate();
        Due.is("no yard", none.hand(1, 0), STATE);
        Due.is("no yard, n 0", none.hand(0, 0), STATE);
        Due.is("no yard, what 3", none.hand(1, 3), STATE);
        Due.is("no things", Due.of("g30,0;").hand(60, 0) + Due.of("g30,0;").hand(60, 2), 0);
    }

    private static void handTurns() {
        Due.promise(29, "ahead of each the THING on the grate is TURNED, if that SKIN is above the other one");
        CoalGrate x = Due.of(CHEESE);
        Due.is("1: both are 0", x.hand(1, 2), 0);
        Due.is("2: 10 and 0", x.hand(2, 2), 1);
        Due.is("3: 10 and 8", x.hand(3, 2), 2);
        CoalGrate even = Due.of("g30,0;c0,2;h0;");
        even.minutes(2);
        even.turn(0);
        even.minutes(1);
        Due.are("both are 2", new int[] {even.thing(0, 2), even.thing(0, 3)}, 2, 2);
        Due.is("equal: not turned", even.hand(1, 2), 0);
        Due.promise(29, "not BURNT");
        Due.is("turned ahead of minutes 1 to 16, then burnt", x.hand(60, 2), 16);
        CoalGrate two = Due.of("g30,0;c0,30;c3,10;h0;h3;");
        two.minutes(3);
        Due.is("0 is burnt, 1 is turned", two.hand(1, 2), 1);
        Due.is("burnt", two.hand(1, 0), 1);
        Due.promise(29, "on the grate: not aside");
        CoalGrate aside = Due.of("g30,0;c0,10;c3,1;h0;h3;");
        aside.minutes(2);
        aside.move(0, 12);
        Due.is("the other one", aside.hand(1, 2), 1);
        aside.move(1, 12);
        Due.is("none", aside.hand(9, 2), 0);
        Due.promise(29, "SERVED ones not");
        CoalGrate s = Due.of("g30,0;c0,10;c3,1;h0;h3;eh0;");
        s.minutes(4);
        Due.is("through", s.hand(1, 1), 1);
        s.serve(0, 0);
        Due.is("a served one is not told", s.hand(1, 1), 0);
        Due.is("a served one is not turned, but the other", s.hand(1, 2), 1);
    }

    private static void handChoice() {
        Due.promise(29, "whose SKIN below is most, of several the first");
        CoalGrate x = Due.of("g30,0;c3,10;c11,10;d11;d3;");
        x.minutes(3);
        Due.is("36 below, both", x.thing(0, 2) + x.thing(1, 2), 72);
        Due.is("the first is spared", x.hand(1, 0), 2);
        CoalGrate y = Due.of("g30,0;c3,10;c11,9;d11;d3;");
        y.minutes(3);
        Due.is("30 and 36: the second", y.hand(1, 0), 0);
        Due.is("once", y.hand(1, 2), 1);
    }

    private static void handLooksAtOne() {
        Due.promise(29, "it looks at one THING: where its SKIN below is not above the other one, nothing is TURNED");
        CoalGrate x = Due.of("g30,0;c0,20;c11,5;h0;h11;");
        x.minutes(3);
        x.turn(0);
        x.minutes(2);
        Due.are("40 below, 56 above; 25 below", new int[] {x.thing(0, 3), x.thing(0, 2), x.thing(1, 2)}, 40, 56, 25);
        Due.is("the hottest below is hotter above: none", x.hand(1, 2), 0);
        x.move(0, 12);
        Due.is("the other one alone is turned", x.hand(1, 2), 1);
    }

    private static CoalGrate withRow(String text, int lane, int... items) {
        CoalGrate x = Due.of(text);
        x.row(0, lane, items.length);
        for (int i = 0; i < items.length; i++) {
            x.set(0, i, items[i]);
        }
        return x;
    }

    private static void judgedBounds() {
        Due.promise(30, "n ITEMS (0 to 40) of a ROW from i on. BAD: ROW, n");
        CoalGrate x = Due.of("g30,0;h12;");
        x.row(0, 0, 40);
        x.row(7, 2, 0);
        Due.is("row -1", x.judged(-1, 0, 0), BAD);
        Due.is("row 7", x.judged(7, 0, 0), 0);
        Due.is("row 8", x.judged(8, 0, 0), BAD);
        Due.is("the least row", x.judged(LOW, 0, 0), BAD);
        Due.is("the most row", x.judged(HIGH, 0, 0), BAD);
        Due.is("n -1", x.judged(0, 0, -1), BAD);
        Due.is("n 0", x.judged(0, 0, 0), 0);
        Due.is("n 40", x.judged(0, 0, 40), 0);
        Due.is("n 41", x.judged(0, 0, 41), BAD);
        Due.is("the least n", x.judged(0, 0, LOW), BAD);
        Due.is("the most n", x.judged(0, 0, HIGH), BAD);
        Due.promise(30, "PLACE");
        Due.is("i -1", x.judged(0, -1, 1), PLACE);
        Due.is("i -1, none", x.judged(0, -1, 0), PLACE);
        Due.is("i 39", x.judged(0, 39, 1), 0);
        Due.is("i 40", x.judged(0, 40, 1), PLACE);
        Due.is("i 40, none", x.judged(0, 40, 0), 0);
        Due.is("i 41, none", x.judged(0, 41, 0), PLACE);
        Due.is("i 1, 40", x.judged(0, 1, 40), PLACE);
        Due.is("status", x.status(), 2);
        Due.is("a sum that wraps around", x.judged(0, HIGH, 1), PLACE);
        Due.is("the least i", x.judged(0, LOW, 40), PLACE);
        Due.is("a row of none", x.judged(7, 0, 1), PLACE);
        Due.is("a row of none", x.judged(7, 1, 0), PLACE);
    }

    private static void judgedOrder() {
        Due.promise(30, "which comes first: STATE (ahead of BAD), BAD: ROW, n; NULL; PLACE; then BAD: an ITEM");
        CoalGrate none = new CoalGrate();
        none.row(0, 0, 1);
        Due.is("no yard", none.judged(0, 0, 1), STATE);
        Due.is("no yard, row 8", none.judged(8, 0, 0), STATE);
        Due.is("no yard, n 41", none.judged(0, 0, 41), STATE);
        Due.is("no yard, missing", none.judged(1, 0, 0), STATE);
        Due.is("status", none.status(), 0);
        CoalGrate x = withRow("g30,0;h12;", 2, 9, 0, 0);
        Due.is("row 8, n 41", x.judged(8, -1, 41), BAD);
        Due.is("missing, n 41", x.judged(1, 0, 41), BAD);
        Due.is("missing, n -1", x.judged(1, 0, -1), BAD);
        Due.is("no place, n 41", x.judged(0, -1, 41), BAD);
        Due.is("status", x.status(), 0);
        Due.is("missing, no place", x.judged(1, -1, 1), NULL);
        Due.is("status", x.status(), 1);
        Due.is("no place, an item 9", x.judged(0, 0, 4), PLACE);
        Due.is("status", x.status(), 2);
        Due.is("an item 9", x.judged(0, 0, 3), BAD);
        Due.is("it is BAD: the status stays", x.status(), 2);
        Due.is("without it", x.judged(0, 1, 2), 0);
        Due.is("status", x.status(), 0);
    }

    private static void judgedItems() {
        Due.promise(30, "BAD: an ITEM that is neither -1 nor a THING that was not SERVED");
        for (int lane = 0; lane <= 2; lane++) {
            CoalGrate x = withRow("g30,0;c0,10;h0;h12;h12;eh0;", lane, -2, -1, 0, 2, 3, 1);
            Due.is("-2", x.judged(0, 0, 1), BAD);
            Due.is("-1", x.judged(0, 1, 1), 0);
            Due.is("0", x.judged(0, 2, 1), 0);
            Due.is("2", x.judged(0, 3, 1), 0);
            Due.is("3", x.judged(0, 4, 1), BAD);
            Due.is("-1, 0, 2", x.judged(0, 1, 3), 0);
            Due.is("3 is the last of them", x.judged(0, 1, 4), BAD);
            Due.is("-2 is the first of them", x.judged(0, 0, 4), BAD);
            Due.is("what is ahead and behind is not looked at", x.judged(0, 5, 1), 0);
            x.minutes(4);
            Due.is("not served yet", x.judged(0, 2, 1), 1);
            x.serve(0, 0);
            Due.is("served", x.judged(0, 2, 1), BAD);
            Due.is("another one", x.judged(0, 3, 1), 0);
            x.undo();
            Due.is("not served", x.judged(0, 2, 1), 1);
        }
        CoalGrate far = withRow("g30,0;h12;", 2, LOW, HIGH);
        Due.is("the least", far.judged(0, 0, 1), BAD);
        Due.is("the most", far.judged(0, 1, 1), BAD);
        CoalGrate none = withRow("g30,0;", 0, -1, 0);
        Due.is("no things: -1", none.judged(0, 0, 1), 0);
        Due.is("no things: 0", none.judged(0, 1, 1), BAD);
    }

    private static void judgedMinutes() {
        Due.promise(30, "one for each of n MINUTES, what is TURNED ahead of it: THINGS that are THROUGH and not BURNT");
        CoalGrate x = withRow(CHEESE, 0, -1, -1, -1, -1, -1, -1, -1, -1, 0);
        Due.is("3: core 9", x.judged(0, 0, 3), 0);
        Due.is("4: core 15", x.judged(0, 0, 4), 1);
        Due.is("7: skin 70", x.judged(0, 0, 7), 1);
        Due.is("8: burnt", x.judged(0, 0, 8), 0);
        Due.is("turned ahead of the first", x.judged(0, 8, 1), 0);
        x.set(0, 7, 0);
        Due.is("8: turned ahead of the last", x.judged(0, 0, 8), 1);
        x.set(0, 7, -1);
        x.set(0, 0, 0);
        Due.is("8: turned ahead of the first", x.judged(0, 0, 8), 0);
        x.set(0, 0, -1);
        x.set(0, 1, 0);
        Due.is("8: turned ahead of the second", x.judged(0, 0, 8), 1);
        Due.is("turned ahead of the first and of the last", x.judged(0, 1, 8), 1);
        Due.is("turned ahead of the first alone", x.judged(0, 1, 7), 1);
        Due.promise(30, "of n = 0 MINUTES: as it is now");
        x.minutes(3);
        Due.is("core 9", x.judged(0, 0, 0), 0);
        x.minutes(1);
        Due.is("core 15", x.judged(0, 0, 0), 1);
        x.minutes(4);
        Due.is("burnt", x.judged(0, 0, 0), 0);
        Due.promise(30, "SERVED ones not");
        CoalGrate s = withRow("g30,0;c0,10;c11,10;w12;h0;h11;eh0;", 1, -1, 2);
        s.minutes(4);
        Due.is("both", s.judged(0, 0, 2), 2 + 4);
        s.serve(1, 0);
        Due.is("the other one", s.judged(0, 0, 2), 4);
        Due.is("nothing changes", s.thing(2, 4), 0);
    }

    private static void fuels() {
        Due.promise(31, "the fewest MINUTES (0 to 200) behind which no coal has FIRE; NONE");
        Due.is("no coals", Due.of("g30,9;").fuel(), 0);
        Due.is("1", Due.of("g1,0;c0,1;").fuel(), 1);
        Due.is("the longest of them", Due.of("g3,0;c0,2;c1,9;c2,4;").fuel(), 27);
        Due.is("200", Due.of("g20,0;c0,10;").fuel(), 200);
        Due.is("210", Due.of("g21,0;c0,10;").fuel(), NONE);
        Due.is("203", Due.of("g29,0;c0,7;").fuel(), NONE);
        Due.is("900", Due.of("g30,0;c0,30;").fuel(), NONE);
        CoalGrate x = Due.of("g29,0;c0,7;");
        x.minutes(2);
        Due.is("201", x.fuel(), NONE);
        x.minutes(1);
        Due.is("200", x.fuel(), 200);
        x.water();
        Due.is("4 of fire", x.fuel(), 113);
        x.water();
        x.water();
        Due.is("out", x.fuel(), 0);
        CoalGrate y = Due.of("g5,0;");
        y.minutes(4);
        y.coal(0, 1);
        Due.is("a fresh one sinks by the MINUTE", y.fuel(), 1);
        y.minutes(1);
        Due.is("out, though it is fresh", y.fuel(), 0);
        y.coal(0, 2);
        Due.is("from a multiple on", y.fuel(), 10);
        Due.promise(31, "STATE: no YARD");
        Due.is("no yard", new CoalGrate().fuel(), STATE);
    }

    private static void images() {
        Due.promise(32, "An IMAGE (0, 1) is kept of the YARD: 1. BAD; STATE: no YARD");
        CoalGrate none = new CoalGrate();
        Due.is("-1", none.image(-1), BAD);
        Due.is("2", none.image(2), BAD);
        Due.is("the least", none.image(LOW), BAD);
        Due.is("the most", none.image(HIGH), BAD);
        Due.is("no yard, 0", none.image(0), STATE);
        Due.is("no yard, 1", none.image(1), STATE);
        CoalGrate x = Due.of(CHEESE);
        Due.is("-1", x.image(-1), BAD);
        Due.is("0", x.image(0), 1);
        Due.is("1", x.image(1), 1);
        Due.is("2", x.image(2), BAD);
        Due.is("no act", x.count(7), 0);
        x.minutes(3);
        Due.is("acts stay", x.image(0), 1);
        Due.is("acts stay", x.undo(), 2);
        Due.promise(33, "BAD; STATE: none was kept");
        Due.is("-1", none.restore(-1), BAD);
        Due.is("2", none.restore(2), BAD);
        Due.is("the least", none.restore(LOW), BAD);
        Due.is("the most", none.restore(HIGH), BAD);
        Due.is("none was kept", none.restore(0), STATE);
        Due.is("none was kept", none.restore(1), STATE);
        CoalGrate y = Due.of(CHEESE);
        y.image(1);
        y.minutes(2);
        Due.is("none of 0", y.restore(0), STATE);
        Due.is("acts stay", y.count(7), 2);
        Due.is("minute", y.count(4), 2);
        Due.is("1", y.restore(1), 1);
        Due.is("2", y.restore(2), BAD);
        Due.is("minute", y.count(4), 0);
    }

    /** A yard in which nothing is as it was told. */
    private static CoalGrate busy() {
        CoalGrate x = Due.of("g2,9;c2,10;c0,30;h2;d0;h12;eh0;ed9;");
        x.turn(2);
        x.move(2, 5);
        Due.pass(x, 5);
        x.coal(11, 7);
        x.minutes(1);
        Due.is("served", x.serve(0, 0), 1);
        return x;
    }

    private static void sameYard(CoalGrate x, CoalGrate y) {
        for (int what = 1; what <= 6; what++) {
            Due.is("count " + what, x.count(what), y.count(what));
        }
        for (int t = 0; t < 6; t++) {
            Due.is("kind", x.kind(t), y.kind(t));
            for (int what = 0; what <= 6; what++) {
                Due.is("thing " + t + ", " + what, x.thing(t, what), y.thing(t, what));
            }
        }
        for (int k = 0; k < 8; k++) {
            for (int what = 0; what <= 2; what++) {
                Due.is("coal " + k + ", " + what, x.ember(k, what), y.ember(k, what));
                Due.is("eater " + k + ", " + what, x.eater(k, what), y.eater(k, what));
            }
        }
        for (int cell = 0; cell < 12; cell++) {
            Due.is("heat " + cell, x.heatAhead(cell, 7), y.heatAhead(cell, 7));
        }
        Due.is("fuel", x.fuel(), y.fuel());
    }

    private static void restores() {
        Due.promise(33, "The YARD is as an IMAGE kept it (no ACT can be undone then): 1");
        CoalGrate x = busy();
        x.image(0);
        Due.read(x, "g30,0;c1,1;c1,2;c1,3;c1,4;c1,5;c1,6;c1,7;c1,8;m0;m1;m2;m3;m4;m6;em9;em9;em9;em9;");
        x.minutes(3);
        x.image(1);
        Due.is("busy again", x.restore(0), 1);
        sameYard(x, busy());
        Due.is("no act", x.undo(), STATE);
        Due.is("acts", x.count(7), 0);
        x.minutes(2);
        Due.is("of these alone", x.undo(), 1);
        Due.is("the full one", x.restore(1), 1);
        CoalGrate full = Due.of("g30,0;c1,1;c1,2;c1,3;c1,4;c1,5;c1,6;c1,7;c1,8;m0;m1;m2;m3;m4;m6;em9;em9;em9;em9;");
        full.minutes(3);
        sameYard(x, full);
        Due.is("no act", x.undo(), STATE);
        Due.promise(33, "an IMAGE stays as it was kept, and can be kept anew");
        x.restore(0);
        x.minutes(4);
        x.water();
        x.move(1, 12);
        Due.is("again", x.restore(0), 1);
        CoalGrate y = busy();
        sameYard(x, y);
        x.minutes(1);
        y.minutes(1);
        x.image(0);
        x.minutes(5);
        Due.is("kept anew", x.restore(0), 1);
        Due.is("minute 7", x.count(4), 7);
        Due.is("the other one stays", x.restore(1), 1);
        Due.is("minute 3", x.count(4), 3);
    }

    private static void restoresAlone() {
        Due.promise(33, "the YARD alone: ROWS, THE TAPE, THE TRACE, FAULT and status() stay");
        CoalGrate x = Due.of("g30,0;c0,10;w0;");
        x.image(0);
        x.minutes(1);
        x.ask(0, 0);
        x.row(3, 2, 5);
        x.yard();
        Due.tell(x, "g1");
        x.as(0, 5);
        Due.is("restored", x.restore(0), 1);
        Due.are("they stay", new int[] {x.count(0), x.count(8), x.fault(), x.status(), x.trace(0), x.trace(3)},
            1, 2, 1, 3, 11, 20);
        Due.is("the row", x.drop(3), 5);
    }

    public static void main(String[] args) {
        servableBounds();
        servableWhen();
        servableWays();
        handBounds();
        handTurns();
        handChoice();
        handLooksAtOne();
        judgedBounds();
        judgedOrder();
        judgedItems();
        judgedMinutes();
        fuels();
        images();
        restores();
        restoresAlone();
        Due.end(28, 33);
    }
}
