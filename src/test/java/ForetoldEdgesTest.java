/** Edges of promises 20 to 27: what is FORETOLD of one THING or CELL (terms 3). */
public final class ForetoldEdgesTest {
    private static final int NONE = Due.NONE, BAD = Due.BAD, STATE = Due.STATE, FULL = Due.FULL;
    private static final int LOW = Due.LOW, HIGH = Due.HIGH;
    /** A cheese over a coal of 10: core 1, 4, 9, 15 (through), .., skin 70 behind 7 minutes, burnt behind 8. */
    private static final String CHEESE = "g30,0;c0,10;h0;";
    private static final String SEVEN_COALS = "c11,1;c11,1;c11,1;c11,1;c11,1;c11,1;c11,1;";

    /** Thing 0, a cheese, was served from cell 0; thing 1, another one, lies aside. */
    private static CoalGrate served() {
        CoalGrate x = Due.of("g30,0;c0,10;h0;h12;eh0;");
        x.minutes(4);
        Due.is("served", x.serve(0, 0), 1);
        return x;
    }

    /**
     * A corn whose coal smokes for 2 minutes, then gives 1 for 10 minutes: a skin of 10, a core of 1 behind 12
     * minutes and 1 more by each one then: through behind 61 minutes from its beginning.
     */
    private static CoalGrate slowCorn() {
        CoalGrate x = Due.of("g12,0;m0;");
        x.coal(0, 1);
        return x;
    }

    private static void aheads() {
        Due.promise(20, "AHEAD by n MINUTES (0 to 60)");
        CoalGrate x = Due.of("g1,1;d0;h12;");
        Due.is("-1", x.ahead(0, -1, 0), BAD);
        Due.is("0", x.ahead(0, 0, 1), 0);
        Due.is("1", x.ahead(0, 1, 1), 1);
        Due.is("59", x.ahead(0, 59, 1), 59);
        Due.is("60", x.ahead(0, 60, 1), 60);
        Due.is("61", x.ahead(0, 61, 1), BAD);
        Due.is("the least", x.ahead(0, LOW, 1), BAD);
        Due.is("the most", x.ahead(0, HIGH, 1), BAD);
        Due.promise(20, "CORE (what = 0), SKIN below (1), above (2), whether it is BURNT (3)");
        Due.is("what -1", x.ahead(0, 0, -1), BAD);
        Due.is("what 4", x.ahead(0, 0, 4), BAD);
        Due.is("the least what", x.ahead(0, 0, LOW), BAD);
        Due.is("the most what", x.ahead(0, 0, HIGH), BAD);
        Due.is("at its limit", x.ahead(0, 45, 3), 0);
        Due.is("above it", x.ahead(0, 46, 3), 1);
        CoalGrate y = Due.of(CHEESE);
        y.minutes(3);
        y.turn(0);
        Due.are("now", new int[] {y.ahead(0, 0, 0), y.ahead(0, 0, 1), y.ahead(0, 0, 2), y.ahead(0, 0, 3)}, 9, 0, 30, 0);
        Due.are("then", new int[] {y.ahead(0, 1, 0), y.ahead(0, 1, 1), y.ahead(0, 1, 2)}, 9 + 38 / 6, 10, 28);
        Due.is("above, 0 at least", y.ahead(0, 15, 2), 0);
        Due.is("above, just ahead of that", y.ahead(0, 14, 2), 2);
        y.move(0, 12);
        Due.are("aside", new int[] {y.ahead(0, 9, 0), y.ahead(0, 9, 1), y.ahead(0, 9, 2)}, 9, 0, 3);
        Due.is("aside, 0 at least", y.ahead(0, 60, 2), 0);
        Due.is("nothing changes", y.thing(0, 2), 30);
    }

    private static void aheadsRefused() {
        Due.promise(20, "BAD; STATE: it was SERVED, behind BAD");
        Due.is("no yard", new CoalGrate().ahead(0, 0, 0), BAD);
        CoalGrate x = served();
        Due.is("thing -1", x.ahead(-1, 0, 0), BAD);
        Due.is("thing 1", x.ahead(1, 0, 0), 0);
        Due.is("thing 2", x.ahead(2, 0, 0), BAD);
        Due.is("the least", x.ahead(LOW, 0, 0), BAD);
        Due.is("the most", x.ahead(HIGH, 0, 0), BAD);
        Due.is("served", x.ahead(0, 0, 0), STATE);
        Due.is("served, 60", x.ahead(0, 60, 3), STATE);
        Due.is("served, 61", x.ahead(0, 61, 0), BAD);
        Due.is("served, -1", x.ahead(0, -1, 0), BAD);
        Due.is("served, what 4", x.ahead(0, 0, 4), BAD);
        Due.is("served, what -1", x.ahead(0, 0, -1), BAD);
        Due.promise(20, "beyond 400 MINUTES, too: they are not gone, but foretold");
        CoalGrate y = Due.of("g30,1;k0;");
        Due.pass(y, 400);
        Due.is("full", y.minutes(1), FULL);
        Due.is("skin", y.ahead(0, 60, 1), 460);
        Due.is("heat", y.heatAhead(0, 60), 1);
        Due.is("burnt by its hand", y.hand(60, 0), 1);
    }

    private static void heatAheads() {
        Due.promise(21, "AHEAD: HEAT. BAD");
        CoalGrate x = Due.of("g1,3;c0,30;c11,30;c11,30;c11,3;");
        Due.is("n -1", x.heatAhead(0, -1), BAD);
        Due.is("n 0", x.heatAhead(0, 0), 33);
        Due.is("n 29", x.heatAhead(0, 29), 4);
        Due.is("n 30", x.heatAhead(0, 30), 3);
        Due.is("n 60", x.heatAhead(0, 60), 3);
        Due.is("n 61", x.heatAhead(0, 61), BAD);
        Due.is("the least n", x.heatAhead(0, LOW), BAD);
        Due.is("the most n", x.heatAhead(0, HIGH), BAD);
        Due.is("cell -1", x.heatAhead(-1, 0), BAD);
        Due.is("cell 11", x.heatAhead(11, 2), 28 + 28 + 1);
        Due.is("cell 11, one is out", x.heatAhead(11, 5), 25 + 25);
        Due.is("beside, each cut by itself", x.heatAhead(10, 1), 14 + 14 + 1);
        Due.is("cell 12", x.heatAhead(12, 0), BAD);
        Due.is("the least cell", x.heatAhead(LOW, 0), BAD);
        Due.is("the most cell", x.heatAhead(HIGH, 0), BAD);
        Due.promise(21, "STATE: no YARD (ahead of BAD)");
        CoalGrate none = new CoalGrate();
        Due.is("no yard", none.heatAhead(0, 0), STATE);
        Due.is("no yard, n 61", none.heatAhead(0, 61), STATE);
        Due.is("no yard, cell 12", none.heatAhead(12, 0), STATE);
    }

    private static void heatAheadOfFat() {
        Due.promise(21, "FAT by the SKIN below as it is then");
        CoalGrate x = Due.of("g4,0;c1,5;w1;");
        Due.is("skin 0", x.heatAhead(1, 0), 5);
        Due.is("skin 5", x.heatAhead(1, 1), 5);
        Due.is("skin 10", x.heatAhead(1, 2), 8);
        Due.is("skin 18", x.heatAhead(1, 3), 8);
        Due.is("sunk", x.heatAhead(1, 4), 4 + 3);
        Due.is("the last of it", x.heatAhead(1, 19), 1 + 3);
        Due.is("out: no fat", x.heatAhead(1, 20), 0);
        x.move(0, 12);
        Due.is("nothing lies there", x.heatAhead(1, 3), 5);
        CoalGrate y = Due.of("g30,0;c1,10;d1;");
        y.minutes(1);
        y.turn(0);
        Due.is("the cold side is below", y.heatAhead(1, 0), 10);
        Due.is("no longer cold", y.heatAhead(1, 1), 13);
        Due.promise(21, "of none that is FRESH");
        CoalGrate z = Due.of("g3,0;");
        z.minutes(1);
        z.coal(5, 9);
        Due.is("0", z.heatAhead(5, 0), 0);
        Due.is("1", z.heatAhead(5, 1), 0);
        Due.is("2", z.heatAhead(5, 2), 8);
        Due.is("beside", z.heatAhead(6, 2), 4);
        Due.is("4", z.heatAhead(5, 4), 8);
        Due.is("5", z.heatAhead(5, 5), 7);
        z.minutes(1);
        Due.is("1", z.heatAhead(5, 1), 8);
    }

    private static void readies() {
        Due.promise(22, "the fewest MINUTES (0 to 60) behind which it is THROUGH and not BURNT; NONE");
        CoalGrate x = slowCorn();
        Due.is("49 behind 60 minutes", x.ahead(0, 60, 0), 49);
        Due.is("61 are too many", x.ready(0), NONE);
        x.minutes(1);
        Due.is("50 behind 60 minutes", x.ahead(0, 60, 0), 50);
        Due.is("60", x.ready(0), 60);
        Due.pass(x, 59);
        Due.is("1", x.ready(0), 1);
        x.minutes(1);
        Due.is("0", x.ready(0), 0);
        x.minutes(1);
        Due.is("through for long", x.ready(0), 0);
        Due.promise(22, "THROUGH and not BURNT");
        Due.is("through with its skin at the limit", Due.of("g30,0;c0,30;c0,5;h0;").ready(0), 2);
        Due.is("through and burnt by one minute", Due.of("g30,0;c0,30;c0,30;c0,11;h0;").ready(0), NONE);
        Due.is("burnt before it is through", Due.of("g30,0;c0,30;c0,6;h0;").ready(0), NONE);
        CoalGrate y = Due.of(CHEESE);
        Due.is("4", y.ready(0), 4);
        y.minutes(4);
        y.move(0, 12);
        Due.is("aside, through", y.ready(0), 0);
        y.move(0, 0);
        y.minutes(3);
        Due.is("at its limit", y.ready(0), 0);
        y.minutes(1);
        Due.is("burnt", y.ready(0), NONE);
        y.move(0, 12);
        Due.is("burnt, aside", y.ready(0), NONE);
        Due.is("aside, cold", Due.of("g30,0;c0,10;h12;").ready(0), NONE);
        Due.promise(22, "BAD; STATE");
        Due.is("no yard", new CoalGrate().ready(0), BAD);
        CoalGrate z = served();
        Due.is("-1", z.ready(-1), BAD);
        Due.is("2", z.ready(2), BAD);
        Due.is("the least", z.ready(LOW), BAD);
        Due.is("the most", z.ready(HIGH), BAD);
        Due.is("served", z.ready(0), STATE);
    }

    private static void wheres() {
        Due.promise(23, "the CELL (free ones, its own) in which, MOVED there now, it is READY soonest");
        Due.is("from aside", Due.of("g30,0;c6,10;h12;").where(0), 6);
        Due.is("from another cell", Due.of("g30,0;c6,10;h0;").where(0), 6);
        Due.is("its own", Due.of("g30,0;c6,10;h6;").where(0), 6);
        Due.is("cell 11", Due.of("g30,0;c11,10;h0;").where(0), 11);
        Due.is("cell 0", Due.of("g30,0;c0,10;h11;").where(0), 0);
        Due.is("another one lies there: beside it", Due.of("g30,0;c11,10;h0;w11;").where(0), 7);
        Due.is("too hot there, beside it is well", Due.of("g30,0;c11,30;c11,6;h0;").where(0), 7);
        CoalGrate s = served();
        Due.is("a served one lies nowhere", s.where(1), 0);
        Due.promise(23, "of several the least");
        Due.is("2 and 8", Due.of("g30,0;c8,10;c2,10;h12;").where(0), 2);
        Due.is("2 is taken", Due.of("g30,0;c8,10;c2,10;h12;w2;").where(0), 8);
        Due.is("its own, 8, is no sooner", Due.of("g30,0;c8,10;c2,10;h8;").where(0), 2);
        Due.is("by the wind", Due.of("g30,6;h12;").where(0), 0);
        Due.is("by the wind, 0 is taken", Due.of("g30,6;h12;w0;").where(0), 4);
        CoalGrate x = Due.of("g30,0;c5,10;h5;w0;k1;");
        x.minutes(4);
        Due.is("through: the least free one", x.where(0), 2);
        x.move(0, 12);
        Due.is("through, aside", x.where(0), 2);
        x.move(1, 12);
        Due.is("0 is free", x.where(0), 0);
        Due.is("the last one, by one minute", Due.of("g30,0;c0,8;c11,10;h12;").where(0), 11);
        Due.are("5 and 4 minutes", new int[] {Due.of("g30,0;c0,8;h0;").ready(0), Due.of("g30,0;c11,10;h11;").ready(0)}, 5, 4);
        Due.promise(23, "READY within 60 MINUTES; NONE");
        CoalGrate y = slowCorn();
        Due.is("61", y.where(0), NONE);
        y.minutes(1);
        Due.is("60", y.where(0), 0);
        Due.is("no heat", Due.of("g30,0;h0;").where(0), NONE);
        CoalGrate z = Due.of(CHEESE);
        z.minutes(8);
        Due.is("burnt", z.where(0), NONE);
        Due.promise(23, "BAD; STATE");
        Due.is("no yard", new CoalGrate().where(0), BAD);
        Due.is("-1", s.where(-1), BAD);
        Due.is("2", s.where(2), BAD);
        Due.is("the least", s.where(LOW), BAD);
        Due.is("the most", s.where(HIGH), BAD);
        Due.is("served", s.where(0), STATE);
    }

    private static void inTimes() {
        Due.promise(24, "IN TIME by n MINUTES (0 to 60): READY in n or fewer");
        CoalGrate x = Due.of("g30,6;h12;w4;");
        Due.is("n -1", x.inTime(0, -1), BAD);
        Due.is("n 0", x.inTime(0, 0), 0);
        Due.is("n 4", x.inTime(0, 4), 0);
        Due.is("n 5", x.inTime(0, 5), 1 + 256);
        Due.is("n 60", x.inTime(0, 60), 1 + 256);
        Due.is("n 61", x.inTime(0, 61), BAD);
        Due.is("the least n", x.inTime(0, LOW), BAD);
        Due.is("the most n", x.inTime(0, HIGH), BAD);
        CoalGrate y = slowCorn();
        Due.is("61 are too many", y.inTime(0, 60), 0);
        y.minutes(1);
        Due.is("59", y.inTime(0, 59), 0);
        Due.is("60", y.inTime(0, 60), 1);
        Due.promise(24, "all such CELLS (bits): free ones, its own");
        CoalGrate z = Due.of("g30,0;c11,10;h11;w7;h12;");
        Due.is("its own and 10", z.inTime(0, 60), 2048 + 1024);
        Due.is("4 minutes", z.inTime(0, 4), 2048);
        Due.is("11 is not free", z.inTime(2, 60), 1024);
        z.minutes(4);
        Due.is("through: all but 7", z.inTime(0, 0), 4095 - 128);
        z.move(0, 12);
        Due.is("aside: the same", z.inTime(0, 0), 4095 - 128);
        z.move(1, 12);
        Due.is("all", z.inTime(0, 0), 4095);
        z.move(0, 11);
        z.minutes(4);
        Due.is("burnt: none", z.inTime(0, 60), 0);
        Due.promise(24, "MOVED there now: SKINS and CORE go with it");
        CoalGrate warm = Due.of(CHEESE);
        warm.minutes(3);
        Due.is("skin 40: core 15", warm.inTime(0, 1), 1);
        Due.is("skin 30 where it is cold: core 14, 19", warm.inTime(0, 2), 4095);
        warm.turn(0);
        Due.is("28 above, 10 below: core 15", warm.inTime(0, 1), 1);
        Due.is("28, then 26 above where it is cold: core 13, 17", warm.inTime(0, 2), 4095);
        Due.promise(24, "BAD; STATE");
        Due.is("no yard", new CoalGrate().inTime(0, 0), BAD);
        CoalGrate s = served();
        Due.is("-1", s.inTime(-1, 0), BAD);
        Due.is("2", s.inTime(2, 0), BAD);
        Due.is("the least", s.inTime(LOW, 0), BAD);
        Due.is("the most", s.inTime(HIGH, 0), BAD);
        Due.is("served", s.inTime(0, 0), STATE);
        Due.is("served, n 61", s.inTime(0, 61), BAD);
        Due.is("served, n -1", s.inTime(0, -1), BAD);
        Due.is("its cell is free", s.inTime(1, 4), 1);
    }

    private static void flipsBounds() {
        Due.promise(25, "TURNS of a THING in n MINUTES (1 to 12)");
        CoalGrate x = Due.of(CHEESE);
        Due.is("n -1", x.flips(0, -1, 0), BAD);
        Due.is("n 0", x.flips(0, 0, 0), BAD);
        Due.is("n 1", x.flips(0, 1, 0), NONE);
        Due.is("n 12", x.flips(0, 12, 0), 1);
        Due.is("n 13", x.flips(0, 13, 0), BAD);
        Due.is("the least n", x.flips(0, LOW, 0), BAD);
        Due.is("the most n", x.flips(0, HIGH, 0), BAD);
        Due.promise(25, "how many (what = 0), how (1)");
        Due.is("what -1", x.flips(0, 4, -1), BAD);
        Due.is("what 0", x.flips(0, 4, 0), 0);
        Due.is("what 1", x.flips(0, 4, 1), 0);
        Due.is("what 2", x.flips(0, 4, 2), BAD);
        Due.is("the least what", x.flips(0, 4, LOW), BAD);
        Due.is("the most what", x.flips(0, 4, HIGH), BAD);
        Due.promise(25, "BAD; STATE, also: it lies aside");
        Due.is("no yard", new CoalGrate().flips(0, 1, 0), BAD);
        CoalGrate s = served();
        Due.is("-1", s.flips(-1, 1, 0), BAD);
        Due.is("2", s.flips(2, 1, 0), BAD);
        Due.is("the least", s.flips(LOW, 1, 0), BAD);
        Due.is("the most", s.flips(HIGH, 1, 0), BAD);
        Due.is("served", s.flips(0, 1, 0), STATE);
        Due.is("aside", s.flips(1, 1, 0), STATE);
        Due.is("served, n 13", s.flips(0, 13, 0), BAD);
        Due.is("served, what 2", s.flips(0, 1, 2), BAD);
        Due.is("aside, n 0", s.flips(1, 0, 0), BAD);
        Due.is("aside, what -1", s.flips(1, 1, -1), BAD);
        x.minutes(4);
        x.move(0, 12);
        Due.is("through, but aside", x.flips(0, 1, 0), STATE);
        x.move(0, 11);
        Due.is("cell 11", x.flips(0, 1, 0), 0);
    }

    private static void flipsWays() {
        Due.promise(25, "the fewest TURNS by which it is THROUGH and not BURNT behind them");
        CoalGrate x = Due.of(CHEESE);
        x.minutes(6);
        Due.is("70 at the end: none", x.flips(0, 1, 0), 0);
        Due.is("80 at the end: one", x.flips(0, 2, 0), 1);
        Due.is("ahead of minute 0", x.flips(0, 2, 1), 1);
        x.minutes(1);
        Due.is("at its limit", x.flips(0, 1, 0), 1);
        Due.is("ahead of minute 0", x.flips(0, 1, 1), 1);
        x.minutes(1);
        Due.is("burnt", x.flips(0, 1, 0), NONE);
        Due.is("burnt", x.flips(0, 12, 1), NONE);
        Due.promise(25, "of several ways the one that is the least number by bits");
        String[] texts = {"g30,0;c0,10;h0;", "g7,0;c1,4;k1;", "g8,0;c1,4;k1;", "g1,0;c1,12;d1;", "g1,0;c1,12;d1;",
            "g24,0;c1,3;k1;", "g2,0;c1,13;h1;", "g3,0;c1,7;d1;", "g6,0;c1,5;w1;", "g30,0;c1,30;m1;"};
        String[] acts = {"", "mmmmmmmmmm", "mmmmmmmmmm", "mmtmmmt", "mmtmmmtm", "mmmmmmmmmmmtmm", "mmmtmmmmmmtmmmmt",
            "mmmmt", "mmm", ""};
        int[] how = {32, 2048, 1024, 94, 47, 2049, 4079, 1078, 1, NONE};
        for (int k = 0; k < texts.length; k++) {
            CoalGrate y = behind(texts[k], acts[k]);
            int way = bestByDoing(texts[k], acts[k], 12);
            Due.is("how by doing, " + texts[k] + acts[k], y.flips(0, 12, 1), way);
            Due.is("how, " + texts[k] + acts[k], y.flips(0, 12, 1), how[k]);
            Due.is("how many, " + texts[k] + acts[k], y.flips(0, 12, 0), way == NONE ? NONE : Integer.bitCount(way));
        }
    }

    private static void flipsInEachNumberOfMinutes() {
        Due.promise(25, "in n MINUTES: neither more nor fewer of them");
        String[] texts = {CHEESE, "g30,0;c1,12;d1;", "g2,0;c1,13;h1;", "g1,0;c1,12;d1;"};
        String[] acts = {"mmmmmm", "mm", "mmmtmm", "mmtm"};
        for (int k = 0; k < texts.length; k++) {
            for (int n = 12; n >= 1; n--) {
                CoalGrate x = behind(texts[k], acts[k]);
                int way = bestByDoing(texts[k], acts[k], n);
                x.flips(0, 12, 0);
                Due.is(n + " minutes of " + texts[k] + acts[k], x.flips(0, n, 1), way);
                Due.is("how many", x.flips(0, n, 0), way == NONE ? NONE : Integer.bitCount(way));
            }
        }
        CoalGrate y = Due.of(CHEESE);
        y.minutes(2);
        y.move(0, 11);
        Due.are("20 where it is cold: core 4, 7, 10, 13, 16", new int[] {y.flips(0, 3, 0), y.flips(0, 4, 0)}, NONE, 0);
    }

    private static CoalGrate behind(String text, String acts) {
        CoalGrate x = Due.of(text);
        for (int i = 0; i < acts.length(); i++) {
            if (acts.charAt(i) == 't') {
                x.turn(0);
            } else {
                x.minutes(1);
            }
        }
        return x;
    }

    /** Every way is really done; an object has 512 calls, so that each is done on one of its own. */
    private static int bestByDoing(String text, String acts, int n) {
        int best = NONE;
        for (int way = 0; way < 1 << n; way++) {
            if (best != NONE && Integer.bitCount(way) >= Integer.bitCount(best)) {
                continue;
            }
            CoalGrate x = behind(text, acts);
            for (int k = 0; k < n; k++) {
                if ((way >> k & 1) == 1) {
                    x.turn(0);
                }
                x.minutes(1);
            }
            best = x.thing(0, 6) == 1 && x.thing(0, 5) == 0 ? way : best;
        }
        return best;
    }

    private static void starts() {
        Due.promise(26, "so that it is THROUGH and not BURNT behind T MINUTES (1 to 60)");
        CoalGrate x = Due.of("g30,0;c0,10;h12;w1;");
        Due.is("T -1", x.start(0, 0, -1), BAD);
        Due.is("T 0", x.start(0, 0, 0), BAD);
        Due.is("T 1", x.start(0, 0, 1), NONE);
        Due.is("T 60", x.start(0, 0, 60), 55);
        Due.is("T 61", x.start(0, 0, 61), BAD);
        Due.is("the least T", x.start(0, 0, LOW), BAD);
        Due.is("the most T", x.start(0, 0, HIGH), BAD);
        Due.promise(26, "the most MINUTES from now on (0 to T); NONE");
        Due.is("T 3", x.start(0, 0, 3), NONE);
        Due.is("T 4: at once", x.start(0, 0, 4), 0);
        Due.is("T 5: the most, not at once", x.start(0, 0, 5), 1);
        Due.is("T 20", x.start(0, 0, 20), 16);
        CoalGrate y = Due.of(CHEESE);
        y.minutes(4);
        Due.is("through: behind all of them", y.start(0, 0, 1), 1);
        Due.is("through: behind all of them", y.start(0, 11, 60), 60);
        y.minutes(4);
        Due.is("burnt", y.start(0, 11, 60), NONE);
        CoalGrate z = slowCorn();
        Due.is("60 are one too few", z.start(0, 0, 60), NONE);
        z.minutes(1);
        Due.is("60: a minute of smoke is no loss", z.start(0, 0, 60), 1);
        Due.promise(26, "aside till then: both SKINS are 3 less");
        CoalGrate c = Due.of(CHEESE);
        c.minutes(3);
        Due.is("skin 30, core 9, as it lies: 40, core 15", c.start(0, 0, 1), 0);
        Due.is("27, then 37: core 15", c.start(0, 0, 2), 1);
        Due.is("24, then 34: core 14; 27, then 37, 47", c.start(0, 0, 3), 1);
        Due.is("its skins would rot in vain on the grate", c.start(0, 0, 20), 17);
        c.turn(0);
        Due.is("the other side is below", c.start(0, 0, 1), 0);
        Due.is("above 27, then 10 and 25: core 14", c.start(0, 0, 2), 0);
    }

    private static void startsRefused() {
        Due.promise(26, "MOVED to a CELL (free or its own, now)");
        CoalGrate x = Due.of("g30,0;c0,10;c11,10;h0;h11;");
        Due.is("its own", x.start(0, 0, 9), 5);
        Due.is("a free one", x.start(0, 1, 9), 3);
        Due.is("another one lies in that CELL", x.start(0, 11, 9), STATE);
        Due.is("another one lies in that CELL", x.start(1, 0, 9), STATE);
        x.move(1, 12);
        Due.is("free now", x.start(0, 11, 9), 5);
        Due.is("two of them aside is no matter", x.start(1, 11, 9), 5);
        Due.promise(26, "BAD; STATE");
        Due.is("no yard", new CoalGrate().start(0, 0, 1), BAD);
        Due.is("cell -1", x.start(0, -1, 9), BAD);
        Due.is("cell 12", x.start(0, 12, 9), BAD);
        Due.is("the least cell", x.start(0, LOW, 9), BAD);
        Due.is("the most cell", x.start(0, HIGH, 9), BAD);
        CoalGrate s = served();
        Due.is("thing -1", s.start(-1, 0, 9), BAD);
        Due.is("thing 2", s.start(2, 0, 9), BAD);
        Due.is("the least thing", s.start(LOW, 0, 9), BAD);
        Due.is("the most thing", s.start(HIGH, 0, 9), BAD);
        Due.is("served", s.start(0, 0, 9), STATE);
        Due.is("served, T 0", s.start(0, 0, 0), BAD);
        Due.is("served, T 61", s.start(0, 0, 61), BAD);
        Due.is("served, cell 12", s.start(0, 12, 9), BAD);
        s.move(1, 0);
        Due.is("taken", s.start(0, 0, 9), STATE);
        CoalGrate y = Due.of("g30,0;h0;h11;");
        Due.is("taken, T 61", y.start(0, 11, 61), BAD);
        Due.is("taken, T 0", y.start(0, 11, 0), BAD);
    }

    private static void fuels() {
        Due.promise(27, "behind n MINUTES (1 to 60)");
        CoalGrate x = Due.of("g30,0;h0;");
        Due.is("n -1", x.fuelFor(0, -1), BAD);
        Due.is("n 0", x.fuelFor(0, 0), BAD);
        Due.is("n 1", x.fuelFor(0, 1), NONE);
        Due.is("n 60", x.fuelFor(0, 60), 1);
        Due.is("n 61", x.fuelFor(0, 61), BAD);
        Due.is("the least n", x.fuelFor(0, LOW), BAD);
        Due.is("the most n", x.fuelFor(0, HIGH), BAD);
        Due.promise(27, "the least FIRE (1 to 30) of a coal ADDED in its CELL now; NONE");
        Due.is("30 and 60: core 15", x.fuelFor(0, 4), 30);
        Due.is("3 minutes: 30 are too few", x.fuelFor(0, 3), NONE);
        Due.is("FRESH for all of them", x.fuelFor(0, 2), NONE);
        Due.is("10, 20, 30, 40: core 15", x.fuelFor(0, 6), 10);
        Due.is("a coal that sinks ahead of it is hot", Due.of("g1,0;h0;").fuelFor(0, 4), NONE);
        Due.is("13 less 2, 3, 4, 5", Due.of("g1,0;h0;").fuelFor(0, 6), 13);
        Due.is("in its cell, not in another", Due.of("g30,0;h11;").fuelFor(0, 6), 10);
        Due.is("3, 2, 1, then out, 0 at least: a skin of 6 stays", Due.of("g1,0;h0;").fuelFor(0, 60), 5);
        Due.is("core 15 behind 19 minutes", Due.of("g1,0;h0;").fuelFor(0, 19), 5);
        Due.is("core 14 behind 18 minutes: 4, 3, 2, 1", Due.of("g1,0;h0;").fuelFor(0, 18), 6);
        Due.promise(27, "0: it is so without");
        Due.is("by the coals there", Due.of(CHEESE).fuelFor(0, 4), 0);
        Due.is("9, 18, 27, 36, 45: core 21", Due.of("g30,0;c0,9;h0;").fuelFor(0, 5), 0);
        Due.is("9, 18, 30, 42: core 16", Due.of("g30,0;c0,9;h0;").fuelFor(0, 4), 3);
        CoalGrate y = Due.of(CHEESE);
        y.minutes(7);
        Due.is("it will be burnt", y.fuelFor(0, 1), NONE);
        y.minutes(1);
        Due.is("it is burnt", y.fuelFor(0, 60), NONE);
        CoalGrate z = Due.of("g30,0;h0;");
        Due.pass(z, 29);
        Due.is("the coal sinks by the MINUTE", z.fuelFor(0, 6), 11);
    }

    private static void fuelsRefused() {
        Due.promise(27, "BAD; STATE, also: it lies aside; FULL: 8 COALS");
        Due.is("no yard", new CoalGrate().fuelFor(0, 1), BAD);
        CoalGrate s = served();
        Due.is("thing -1", s.fuelFor(-1, 1), BAD);
        Due.is("thing 2", s.fuelFor(2, 1), BAD);
        Due.is("the least thing", s.fuelFor(LOW, 1), BAD);
        Due.is("the most thing", s.fuelFor(HIGH, 1), BAD);
        Due.is("served", s.fuelFor(0, 1), STATE);
        Due.is("aside", s.fuelFor(1, 1), STATE);
        Due.is("served, n 61", s.fuelFor(0, 61), BAD);
        Due.is("aside, n 0", s.fuelFor(1, 0), BAD);
        CoalGrate x = Due.of("g30,0;" + SEVEN_COALS + "h0;w12;");
        Due.is("7 coals", x.fuelFor(0, 6), 10);
        Due.is("7 coals, none is kept of what was foretold", x.count(2), 7);
        x.coal(0, 10);
        Due.is("8 coals, even if it is so without", x.fuelFor(0, 6), FULL);
        Due.is("8 coals, n 0", x.fuelFor(0, 0), BAD);
        Due.is("8 coals, n 61", x.fuelFor(0, 61), BAD);
        Due.is("8 coals, no such", x.fuelFor(2, 6), BAD);
        Due.is("8 coals, aside", x.fuelFor(1, 6), STATE);
        x.minutes(6);
        x.undo();
        Due.is("8 coals", x.fuelFor(0, 6), FULL);
        CoalGrate y = Due.of("g1,0;" + SEVEN_COALS + "c11,1;h0;");
        y.minutes(3);
        Due.is("8 coals that are out", y.fuelFor(0, 6), FULL);
    }

    public static void main(String[] args) {
        aheads();
        aheadsRefused();
        heatAheads();
        heatAheadOfFat();
        readies();
        wheres();
        inTimes();
        flipsBounds();
        flipsWays();
        flipsInEachNumberOfMinutes();
        starts();
        startsRefused();
        fuels();
        fuelsRefused();
        Due.end(20, 27);
    }
}
