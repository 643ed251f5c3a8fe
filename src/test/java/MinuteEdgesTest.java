/** Edges of promises 9 and 16 to 19: a MINUTE, THINGS, EATERS, COALS and HEAT (terms 2). */
public final class MinuteEdgesTest {
    private static final int NONE = Due.NONE, BAD = Due.BAD, STATE = Due.STATE, FULL = Due.FULL;
    private static final int LOW = Due.LOW, HIGH = Due.HIGH;
    private static final String SORTS = "wkdhm";
    private static final int[] THICK = {8, 16, 4, 6, 10};
    private static final int[] NEED = {40, 80, 20, 15, 50};
    private static final int[] LIMIT = {90, 120, 45, 70, 100};

    private static void howMany() {
        Due.promise(9, "n MINUTES (1 to 24), an ACT each: the MINUTE");
        CoalGrate x = Due.of("g30,0;");
        Due.is("-1", x.minutes(-1), BAD);
        Due.is("0", x.minutes(0), BAD);
        Due.is("1", x.minutes(1), 1);
        Due.is("one act", x.count(7), 1);
        Due.is("24", x.minutes(24), 25);
        Due.is("24 acts", x.count(7), 24);
        Due.is("25", x.minutes(25), BAD);
        Due.is("the least", x.minutes(LOW), BAD);
        Due.is("the most", x.minutes(HIGH), BAD);
        Due.is("none went", x.count(4), 25);
        CoalGrate y = Due.of("g30,0;");
        Due.is("3", y.minutes(3), 3);
        Due.is("an act each", y.count(7), 3);
        Due.is("one is undone", y.undo(), 2);
        Due.is("minute", y.count(4), 2);
        Due.promise(9, "STATE: no YARD (ahead of BAD)");
        CoalGrate z = new CoalGrate();
        Due.is("0", z.minutes(0), STATE);
        Due.is("1", z.minutes(1), STATE);
        Due.is("24", z.minutes(24), STATE);
        Due.is("25", z.minutes(25), STATE);
        Due.is("the most", z.minutes(HIGH), STATE);
    }

    private static void mostMinutes() {
        Due.promise(9, "FULL: more than 400 would be gone");
        CoalGrate x = Due.of("g30,0;");
        Due.pass(x, 16 * 24);
        Due.is("384 and 17", x.minutes(17), FULL);
        Due.is("384 and 24", x.minutes(24), FULL);
        Due.is("none of them went", x.count(4), 384);
        Due.is("384 and 15", x.minutes(15), 399);
        Due.is("399 and 2", x.minutes(2), FULL);
        Due.is("399 and 1", x.minutes(1), 400);
        Due.is("400 and 1", x.minutes(1), FULL);
        Due.is("400 are gone", x.count(4), 400);
        Due.is("no act by it", x.count(7), 24);
        Due.promise(9, "which comes first: STATE, BAD, FULL");
        Due.is("0", x.minutes(0), BAD);
        Due.is("25", x.minutes(25), BAD);
        Due.is("-1", x.minutes(-1), BAD);
        Due.promise(9, "a MINUTE that is undone is gone no more");
        Due.is("undone", x.undo(), 23);
        Due.is("399", x.count(4), 399);
        Due.is("400 again", x.minutes(1), 400);
        Due.is("full again", x.minutes(1), FULL);
        Due.read(x, "g30,0;");
        Due.is("a new yard begins at 0", x.minutes(1), 1);
    }

    private static void sinking() {
        Due.promise(9, "if MINUTE and 1 is a multiple of SINK, FIRE of each coal is 1 less (0 at least)");
        for (int sink : new int[] {1, 2, 3, 29, 30}) {
            CoalGrate x = Due.of("g" + sink + ",0;c0,30;c5,2;c11,1;");
            for (int minute = 1; minute <= 2 * sink + 1; minute++) {
                x.minutes(1);
                int sunk = minute / sink;
                Due.is("sink " + sink + ", minute " + minute, x.ember(0, 1), 30 - sunk);
                Due.is("two", x.ember(1, 1), Math.max(0, 2 - sunk));
                Due.is("one", x.ember(2, 1), Math.max(0, 1 - sunk));
            }
        }
        Due.promise(9, "it goes by the MINUTE, not by the age of a coal");
        CoalGrate y = Due.of("g3,0;");
        y.minutes(2);
        y.coal(0, 5);
        y.minutes(1);
        Due.is("minute 3", y.ember(0, 1), 4);
        y.minutes(2);
        Due.is("minute 5", y.ember(0, 1), 4);
        y.minutes(1);
        Due.is("minute 6", y.ember(0, 1), 3);
    }

    private static void freshness() {
        Due.promise(9, "then each FRESH coal is so for a MINUTE less");
        CoalGrate x = Due.of("g30,0;c1,2;h0;");
        x.coal(0, 10);
        Due.is("2", x.ember(1, 2), 2);
        Due.is("beside it half of 2", x.heat(0), 1);
        x.minutes(1);
        Due.is("1", x.ember(1, 2), 1);
        Due.is("skin", x.thing(0, 2), 1);
        Due.is("it only smokes", x.heat(0), 1);
        x.minutes(1);
        Due.is("0", x.ember(1, 2), 0);
        Due.is("skin", x.thing(0, 2), 2);
        Due.is("fire now", x.heat(0), 11);
        x.minutes(1);
        Due.is("0 at least", x.ember(1, 2), 0);
        Due.is("skin", x.thing(0, 2), 13);
        Due.promise(9, "all THINGS, by HEAT as it is ahead of it");
        CoalGrate y = Due.of("g1,0;c0,10;h0;");
        y.minutes(1);
        Due.is("10, not 9", y.thing(0, 2), 10);
        y.minutes(1);
        Due.is("then 9", y.thing(0, 2), 19);
        CoalGrate z = Due.of("g30,0;c0,9;w0;");
        z.minutes(2);
        Due.is("no fat yet: 9 and 9", z.thing(0, 2), 18);
        z.minutes(1);
        Due.is("fat: 12", z.thing(0, 2), 30);
    }

    private static void skins() {
        Due.promise(9, "that of the other one 2 less (0 at least)");
        int[] behind = {0, 0, 0, 1, 2};
        for (int fire = 1; fire <= 4; fire++) {
            CoalGrate x = Due.of("g30,0;c0," + fire + ";h0;");
            x.minutes(1);
            x.turn(0);
            x.minutes(1);
            Due.is("above, once " + fire, x.thing(0, 2), behind[fire]);
            Due.is("below", x.thing(0, 3), fire);
        }
        Due.promise(9, "aside both SKINS are 3 less (0 at least)");
        for (int fire = 2; fire <= 5; fire++) {
            CoalGrate x = Due.of("g30,0;c0," + fire + ";h0;");
            x.minutes(3);
            x.turn(0);
            x.minutes(1);
            int above = 3 * fire - 2;
            x.move(0, 12);
            int core = x.thing(0, 1);
            for (int k = 1; k <= 6; k++) {
                x.minutes(1);
                Due.is("side 0", x.thing(0, 2), Math.max(0, above - 3 * k));
                Due.is("side 1", x.thing(0, 3), Math.max(0, fire - 3 * k));
                Due.is("the core stays", x.thing(0, 1), core);
            }
        }
    }

    private static void cores() {
        Due.promise(9, "then CORE is more by both SKINS together by THICK (cut)");
        for (int k = 0; k < 5; k++) {
            for (int fire = THICK[k] - 1; fire <= THICK[k] + 1; fire++) {
                CoalGrate x = Due.of("g30,0;c1," + fire + ";" + SORTS.charAt(k) + "1;");
                x.minutes(1);
                Due.is("core of " + SORTS.charAt(k) + " by " + fire, x.thing(0, 1), fire / THICK[k]);
            }
            int twice = Math.min(30, 2 * THICK[k] - 1);
            CoalGrate x = Due.of("g30,0;c1," + twice + ";" + SORTS.charAt(k) + "1;");
            x.minutes(1);
            Due.is("core of " + SORTS.charAt(k) + " by " + twice, x.thing(0, 1), 1);
        }
        Due.is("3, then 3 and 1", coreOfTwoSides(3), 0);
        Due.is("5, then 5 and 3", coreOfTwoSides(5), 1);
        Due.is("6, then 6 and 4", coreOfTwoSides(6), 1 + 1);
        Due.is("7, then 7 and 5", coreOfTwoSides(7), 1 + 2);
    }

    private static int coreOfTwoSides(int fire) {
        CoalGrate x = Due.of("g30,0;c0," + fire + ";h0;");
        x.minutes(1);
        x.turn(0);
        x.minutes(1);
        return x.thing(0, 1);
    }

    /** A skin of THICK, by wind alone, then a cell without heat: the core is 1 more by each minute. */
    private static CoalGrate byOnes(int k, String eaters) {
        boolean thick = THICK[k] > 9;
        CoalGrate x = Due.of("g30," + (thick ? THICK[k] / 2 : THICK[k]) + ";" + SORTS.charAt(k) + "0;" + eaters);
        x.minutes(thick ? 2 : 1);
        x.move(0, 1);
        Due.is("core", x.thing(0, 1), 1);
        return x;
    }

    private static void through() {
        Due.promise(16, "THROUGH, if CORE is NEED or more");
        for (int k = 0; k < 5; k++) {
            CoalGrate x = byOnes(k, "");
            Due.pass(x, NEED[k] - 2);
            Due.is("one less", x.thing(0, 1), NEED[k] - 1);
            Due.is("not through: " + SORTS.charAt(k), x.thing(0, 6), 0);
            x.minutes(1);
            Due.is("just so", x.thing(0, 1), NEED[k]);
            Due.is("through: " + SORTS.charAt(k), x.thing(0, 6), 1);
            x.minutes(1);
            Due.is("more", x.thing(0, 6), 1);
            x.move(0, 12);
            Due.pass(x, 30);
            Due.is("cold, through yet", x.thing(0, 6), 1);
        }
    }

    private static void burnt() {
        Due.promise(16, "BURNT, once a SKIN was above LIMIT behind a MINUTE (it stays so)");
        for (int k = 0; k < 5; k++) {
            for (int side = 0; side <= 1; side++) {
                CoalGrate x = Due.of("g1,1;" + SORTS.charAt(k) + "0;");
                if (side == 1) {
                    x.turn(0);
                }
                Due.pass(x, LIMIT[k]);
                Due.is("skin at the limit", x.thing(0, 2 + side), LIMIT[k]);
                Due.is("not burnt: " + SORTS.charAt(k), x.thing(0, 5), 0);
                x.minutes(1);
                Due.is("burnt: " + SORTS.charAt(k), x.thing(0, 5), 1);
                Due.is("undone", x.undo(), 23);
                Due.is("not burnt", x.thing(0, 5), 0);
                x.minutes(1);
                x.turn(0);
                Due.is("turned", x.thing(0, 5), 1);
                x.move(0, 12);
                Due.pass(x, 41);
                Due.is("cold", x.thing(0, 2 + side), 0);
                Due.is("it stays so", x.thing(0, 5), 1);
            }
        }
    }

    private static void burntOnesGoOn() {
        Due.promise(9, "a BURNT THING takes heat, is THROUGH and drips as any other one");
        CoalGrate x = Due.of("g30,0;c1,30;d1;");
        x.minutes(2);
        Due.are("30, then 63: core 7, 22", all(x, 0), 1, 7 + 63 / 4, 63, 0, 0, 1, 1);
        Due.is("its fat", x.heat(1), 33);
        x.minutes(1);
        Due.are("96: core 46", all(x, 0), 1, 22 + 96 / 4, 96, 0, 0, 1, 1);
        x.move(0, 12);
        x.minutes(1);
        Due.are("aside", all(x, 0), 12, 46, 93, 0, 0, 1, 1);
    }

    private static void things() {
        Due.promise(16, "Of a THING: 0 .. 6; BAD");
        CoalGrate x = Due.of("g30,0;c0,10;h0;w11;h12;eh0;");
        Due.is("thing -1", x.thing(-1, 0), BAD);
        Due.is("thing 2", x.thing(2, 0), 12);
        Due.is("thing 3", x.thing(3, 0), BAD);
        Due.is("the least", x.thing(LOW, 0), BAD);
        Due.is("the most", x.thing(HIGH, 0), BAD);
        Due.is("what -1", x.thing(0, -1), BAD);
        Due.is("what 7", x.thing(0, 7), BAD);
        Due.is("the least what", x.thing(0, LOW), BAD);
        Due.is("the most what", x.thing(0, HIGH), BAD);
        Due.is("cell 0", x.thing(0, 0), 0);
        Due.is("cell 11", x.thing(1, 0), 11);
        x.minutes(4);
        x.turn(0);
        x.minutes(1);
        Due.are("a cheese", all(x, 0), 0, 15 + (38 + 10) / 6, 38, 10, 1, 0, 1);
        Due.promise(16, "NONE: it was SERVED; it lies nowhere then, stays as it is");
        x.serve(0, 0);
        Due.are("served", all(x, 0), NONE, 23, 38, 10, 1, 0, 1);
        x.minutes(20);
        Due.are("behind 20 minutes", all(x, 0), NONE, 23, 38, 10, 1, 0, 1);
    }

    private static int[] all(CoalGrate x, int thing) {
        int[] whats = new int[7];
        for (int what = 0; what < 7; what++) {
            whats[what] = x.thing(thing, what);
        }
        return whats;
    }

    private static void eaters() {
        Due.promise(17, "Of an EATER: 0 the KIND that he wants (1 to 5), 1 his MINUTE, 2 the THING that he was SERVED (NONE). BAD");
        CoalGrate x = Due.of("g30,0;c0,10;w12;h0;eh0;ek60;ew1;em59;");
        Due.are("kinds", new int[] {x.eater(0, 0), x.eater(1, 0), x.eater(2, 0), x.eater(3, 0)}, 4, 2, 1, 5);
        Due.are("minutes", new int[] {x.eater(0, 1), x.eater(1, 1), x.eater(2, 1), x.eater(3, 1)}, 0, 60, 1, 59);
        Due.is("a thin one", Due.of("g1,0;ed0;").eater(0, 0), 3);
        Due.is("eater -1", x.eater(-1, 0), BAD);
        Due.is("eater 4", x.eater(4, 0), BAD);
        Due.is("the least", x.eater(LOW, 0), BAD);
        Due.is("the most", x.eater(HIGH, 0), BAD);
        Due.is("what -1", x.eater(0, -1), BAD);
        Due.is("what 3", x.eater(0, 3), BAD);
        Due.is("the least what", x.eater(0, LOW), BAD);
        Due.is("the most what", x.eater(0, HIGH), BAD);
        Due.is("not served", x.eater(0, 2), NONE);
        x.minutes(4);
        x.serve(1, 0);
        Due.is("served", x.eater(0, 2), 1);
        Due.is("another one not", x.eater(1, 2), NONE);
        x.undo();
        Due.is("undone", x.eater(0, 2), NONE);
        Due.is("a yard without", Due.of("g1,0;").eater(0, 0), BAD);
    }

    private static void embers() {
        Due.promise(18, "Of a coal: 0 CELL, 1 FIRE, 2 for how many MINUTES yet it is FRESH. BAD");
        CoalGrate x = Due.of("g30,0;c0,1;c11,30;");
        x.coal(5, 12);
        Due.are("cells", new int[] {x.ember(0, 0), x.ember(1, 0), x.ember(2, 0)}, 0, 11, 5);
        Due.are("fires", new int[] {x.ember(0, 1), x.ember(1, 1), x.ember(2, 1)}, 1, 30, 12);
        Due.are("fresh", new int[] {x.ember(0, 2), x.ember(1, 2), x.ember(2, 2)}, 0, 0, 2);
        Due.is("coal -1", x.ember(-1, 0), BAD);
        Due.is("coal 3", x.ember(3, 0), BAD);
        Due.is("the least", x.ember(LOW, 0), BAD);
        Due.is("the most", x.ember(HIGH, 0), BAD);
        Due.is("what -1", x.ember(0, -1), BAD);
        Due.is("what 3", x.ember(0, 3), BAD);
        Due.is("the least what", x.ember(0, LOW), BAD);
        Due.is("the most what", x.ember(0, HIGH), BAD);
        for (int k = 4; k <= 8; k++) {
            Due.is("coal " + (k - 1) + " is none yet", x.ember(k - 1, 0), BAD);
            x.coal(k, k);
            Due.is("coal " + (k - 1), x.ember(k - 1, 1), k);
        }
        Due.is("coal 8", x.ember(8, 0), BAD);
        x.undo();
        Due.is("coal 7 is undone", x.ember(7, 0), BAD);
        Due.promise(18, "a coal whose FIRE is 0 is a coal yet");
        CoalGrate y = Due.of("g1,0;c3,1;");
        y.minutes(2);
        Due.is("cell", y.ember(0, 0), 3);
        Due.is("fire", y.ember(0, 1), 0);
        Due.is("coals", y.count(2), 1);
    }

    private static void heatOfCells() {
        Due.promise(19, "HEAT in a CELL. BAD; STATE: no YARD (ahead of BAD)");
        CoalGrate none = new CoalGrate();
        Due.is("no yard", none.heat(0), STATE);
        Due.is("no yard, -1", none.heat(-1), STATE);
        Due.is("no yard, 12", none.heat(12), STATE);
        CoalGrate y = Due.of("g30,0;");
        Due.is("-1", y.heat(-1), BAD);
        Due.is("0", y.heat(0), 0);
        Due.is("11", y.heat(11), 0);
        Due.is("12", y.heat(12), BAD);
        Due.is("the least", y.heat(LOW), BAD);
        Due.is("the most", y.heat(HIGH), BAD);
        Due.promise(19, "a CELL's number is 4 y and x; four at most are beside one");
        for (int coal = 0; coal < 12; coal++) {
            CoalGrate x = Due.of("g30,0;c" + coal + ",10;");
            for (int cell = 0; cell < 12; cell++) {
                int far = Math.abs(coal % 4 - cell % 4) + Math.abs(coal / 4 - cell / 4);
                Due.is("coal in " + coal + ", cell " + cell, x.heat(cell), far == 0 ? 10 : far == 1 ? 5 : 0);
            }
        }
        Due.promise(19, "WIND more, if x is 0");
        CoalGrate x = Due.of("g30,7;");
        for (int cell = 0; cell < 12; cell++) {
            Due.is("cell " + cell, x.heat(cell), cell % 4 == 0 ? 7 : 0);
        }
    }

    private static void heatOfCoals() {
        Due.promise(19, "half of FIRE (cut, of each by itself)");
        Due.is("1", Due.of("g30,0;c5,1;").heat(6), 0);
        Due.is("2", Due.of("g30,0;c5,2;").heat(6), 1);
        Due.is("3", Due.of("g30,0;c5,3;").heat(6), 1);
        Due.is("1 and 1 in one cell", Due.of("g30,0;c5,1;c5,1;").heat(6), 0);
        Due.is("3 and 3 on two sides", Due.of("g30,0;c5,3;c7,3;").heat(6), 2);
        Due.is("3 on four sides", Due.of("g30,0;c5,3;c7,3;c2,3;c10,3;").heat(6), 4);
        Due.is("all four, and its own", Due.of("g30,0;c5,3;c7,5;c2,7;c10,9;c6,4;").heat(6), 1 + 2 + 3 + 4 + 4);
        Due.is("8 of 30", Due.of("g30,0;c6,30;c6,30;c6,30;c6,30;c6,30;c6,30;c6,30;c6,30;").heat(6), 240);
        Due.promise(19, "of none that is FRESH");
        CoalGrate x = Due.of("g30,0;c5,4;");
        x.coal(5, 30);
        x.coal(6, 30);
        Due.is("there", x.heat(5), 4);
        Due.is("beside", x.heat(6), 2);
        x.minutes(1);
        Due.is("there", x.heat(5), 4);
        x.minutes(1);
        Due.is("there", x.heat(5), 34 + 15);
        Due.is("beside", x.heat(6), 30 + 2 + 15);
    }

    private static void fat() {
        Due.promise(19, "3 more (FAT), if a sausage, a thin one, chicken lies there whose SKIN below is 10 or more");
        for (int k = 0; k < 5; k++) {
            int more = k < 3 ? 3 : 0;
            for (int fire = 9; fire <= 11; fire++) {
                CoalGrate x = Due.of("g30,0;c1," + fire + ";" + SORTS.charAt(k) + "1;");
                Due.is("cold", x.heat(1), fire);
                x.minutes(1);
                Due.is(SORTS.charAt(k) + ", skin " + fire, x.heat(1), fire + (fire >= 10 ? more : 0));
                Due.is("beside it no fat", x.heat(2), fire / 2);
                x.turn(0);
                Due.is("the cold side is below", x.heat(1), fire);
                x.turn(0);
                x.move(0, 12);
                Due.is("nothing lies there", x.heat(1), fire);
            }
        }
        Due.promise(19, "3 more, if that is above 0: the WIND does not count");
        for (int fire = 1; fire <= 3; fire++) {
            CoalGrate x = Due.of("g30,9;c1," + fire + ";w0;");
            int half = fire / 2;
            Due.is("cold", x.heat(0), half + 9);
            x.minutes(2);
            Due.is("skin", x.thing(0, 2), 2 * (half + 9) + (half > 0 ? 3 : 0));
            Due.is("half of " + fire, x.heat(0), half + 9 + (half > 0 ? 3 : 0));
        }
        CoalGrate y = Due.of("g30,9;w0;");
        y.coal(0, 10);
        y.minutes(1);
        y.coal(0, 10);
        y.minutes(1);
        Due.is("skin", y.thing(0, 2), 18);
        Due.is("the first one burns", y.heat(0), 10 + 3 + 9);
        y.water();
        y.water();
        y.water();
        y.water();
        Due.is("both are out", y.heat(0), 9);
    }

    private static void fatAndFresh() {
        Due.promise(19, "a FRESH coal is no fire for FAT");
        CoalGrate x = Due.of("g30,9;k0;");
        x.minutes(2);
        x.coal(0, 30);
        Due.is("fresh for 2", x.heat(0), 9);
        x.minutes(1);
        Due.is("fresh for 1", x.heat(0), 9);
        x.minutes(1);
        Due.is("fire", x.heat(0), 30 + 3 + 9);
        Due.promise(19, "FAT of what lies there, not of what lies beside or was SERVED");
        CoalGrate y = Due.of("g30,0;c1,9;d1;d2;ed0;");
        y.minutes(4);
        Due.is("fat", y.heat(1), 12);
        Due.is("served", y.serve(0, 0), 1);
        Due.is("its fat is gone", y.heat(1), 9);
    }

    public static void main(String[] args) {
        howMany();
        mostMinutes();
        sinking();
        freshness();
        skins();
        cores();
        through();
        burnt();
        burntOnesGoOn();
        things();
        eaters();
        embers();
        heatOfCells();
        heatOfCoals();
        fat();
        fatAndFresh();
        Due.named(9, 9);
        Due.end(16, 19);
    }
}
