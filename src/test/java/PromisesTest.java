/** Each promise of the document by ordinary inputs, by the edges it names and by wrong inputs. */
public final class PromisesTest {
    private static final int NONE = CoalGrate.NONE, BAD = CoalGrate.BAD, STATE = CoalGrate.STATE, FULL = CoalGrate.FULL;
    private static final int NULL = -1000011, PLACE = -1000012, KIND = -1000013, SIZE = -1000014, STORE = -1000015;
    private static final int LOW = Integer.MIN_VALUE, HIGH = Integer.MAX_VALUE;
    /** A cheese over a coal of 10: through behind 4 minutes, burnt behind 8; no wind, no fat. */
    private static final String CHEESE = "g30,0;c0,10;h0;";
    private static int wrong = 0;
    private static int promise = 0;

    private static void due(String what, int got, int want) {
        if (got != want) {
            wrong++;
            System.out.println("promise " + promise + ": " + what + " answered " + got + ", due is " + want);
        }
    }

    private static void tell(CoalGrate x, String text) {
        for (int i = 0; i < text.length(); i++) {
            x.feed(text.charAt(i));
        }
    }

    private static CoalGrate of(String text) {
        CoalGrate x = new CoalGrate();
        tell(x, text);
        if (x.yard() < 0) {
            due("the text " + text, -1, 0);
        }
        return x;
    }

    private static void faultDue(String text, int place, int number) {
        CoalGrate x = of("g1,0;w3;");
        tell(x, text);
        due("yard of " + text, x.yard(), -1000100 - place);
        due("fault of " + text, x.fault(), number);
        due("the yard before " + text, x.count(1), 1);
        due("the tape behind " + text, x.count(8), 0);
    }

    private static void newObject() {
        promise = 1;
        CoalGrate x = new CoalGrate();
        for (int what = 0; what <= 8; what++) {
            due("count " + what, x.count(what), 0);
        }
        due("heat", x.heat(0), STATE);
        due("turn", x.turn(0), BAD);
        due("fault", x.fault(), 0);
        due("status", x.status(), 0);
        due("undo", x.undo(), STATE);
        due("trace", x.trace(0), NONE);
    }

    private static void row() {
        promise = 2;
        CoalGrate x = new CoalGrate();
        due("row of none", x.row(0, 0, 0), 0);
        due("row of 40", x.row(7, 2, 40), 40);
        due("rows", x.count(0), 2);
        due("row -1", x.row(-1, 0, 1), BAD);
        due("row 8", x.row(8, 0, 1), BAD);
        due("lane -1", x.row(0, -1, 1), BAD);
        due("lane 3", x.row(0, 3, -1), BAD);
        due("41 items", x.row(0, 0, 41), BAD);
        due("many items", x.row(0, 0, HIGH), BAD);
        due("fewer than none", x.row(1, 0, -1), SIZE);
        due("far fewer", x.row(7, 0, LOW), SIZE);
        due("status", x.status(), 4);
        due("row 7 stays", x.drop(7), 40);
        x.row(2, 2, 3);
        x.set(2, 0, 77);
        x.set(2, 1, 77);
        x.set(2, 2, 77);
        due("anew", x.row(2, 2, 3), 3);
        tell(x, "g30,0;d0;");
        x.yard();
        due("items are 0 at first, no longer 77", x.judged(2, 0, 3), 0);
        x.set(2, 1, 77);
        due("77 is no thing", x.judged(2, 0, 3), BAD);
    }

    private static void set() {
        promise = 3;
        CoalGrate x = new CoalGrate();
        x.row(0, 0, 3);
        x.row(1, 1, 3);
        x.row(2, 2, 3);
        due("byte 127", x.set(0, 0, 127), 127);
        due("byte 128", x.set(0, 2, 128), -128);
        due("byte 511", x.set(0, 1, 511), -1);
        due("short 32767", x.set(1, 0, 32767), 32767);
        due("short 32768", x.set(1, 0, 32768), -32768);
        due("short 65536", x.set(1, 0, 65536), 0);
        due("int", x.set(2, 0, LOW), LOW);
        due("int", x.set(2, 2, HIGH), HIGH);
        due("place -1", x.set(2, -1, 0), PLACE);
        due("place 3", x.set(2, 3, 0), PLACE);
        due("far place", x.set(2, HIGH, 0), PLACE);
        due("status", x.status(), 2);
        due("missing", x.set(3, 0, 0), NULL);
        due("missing, no place", x.set(3, -5, 0), NULL);
        due("status", x.status(), 1);
        due("row 8", x.set(8, 0, 0), BAD);
        due("row -1", x.set(-1, 0, 0), BAD);
        due("status stays", x.status(), 1);
    }

    private static void copy() {
        promise = 4;
        CoalGrate x = of("g30,0;d0;");
        x.row(0, 0, 4);
        x.row(1, 0, 6);
        x.row(2, 1, 6);
        due("none", x.copy(0, 4, 1, 6, 0), 0);
        due("all", x.copy(0, 0, 1, 2, 4), 4);
        due("missing", x.copy(0, 0, 3, 0, 1), NULL);
        due("missing", x.copy(3, 0, 0, 0, 1), NULL);
        due("lanes", x.copy(0, 0, 2, 0, 1), STORE);
        due("lanes ahead of places", x.copy(0, -1, 2, 0, 99), STORE);
        due("status", x.status(), 5);
        due("i below 0", x.copy(0, -1, 1, 0, 1), PLACE);
        due("j below 0", x.copy(0, 0, 1, -1, 1), PLACE);
        due("n below 0", x.copy(0, 0, 1, 0, -1), PLACE);
        due("beyond a", x.copy(0, 1, 1, 0, 4), PLACE);
        due("beyond b", x.copy(0, 0, 1, 3, 4), PLACE);
        due("far beyond", x.copy(0, 1, 1, 1, HIGH), PLACE);
        due("far place", x.copy(0, HIGH, 1, HIGH, 1), PLACE);
        due("none beyond", x.copy(0, 5, 1, 0, 0), PLACE);
        due("status", x.status(), 2);
        due("rows", x.copy(8, 0, 3, 0, 0), BAD);
        due("rows", x.copy(3, 0, -1, 0, 0), BAD);
        x.row(4, 0, 3);
        x.set(4, 0, 0);
        x.set(4, 1, 9);
        x.set(4, 2, -1);
        due("over itself", x.copy(4, 0, 4, 1, 2), 2);
        due("as they were: 0, 0, 9", x.judged(4, 0, 2), 0);
        due("as they were: 0, 0, 9", x.judged(4, 2, 1), BAD);
    }

    private static void drop() {
        promise = 5;
        CoalGrate x = new CoalGrate();
        x.row(0, 1, 40);
        due("drop", x.drop(0), 40);
        due("rows", x.count(0), 0);
        due("again", x.drop(0), NULL);
        due("status", x.status(), 1);
        due("row 8", x.drop(8), BAD);
        due("row -1", x.drop(-1), BAD);
    }

    private static void feed() {
        promise = 6;
        CoalGrate x = new CoalGrate();
        due("-1", x.feed(-1), BAD);
        due("256", x.feed(256), BAD);
        due("0", x.feed(0), 1);
        due("255", x.feed(255), 2);
        for (int i = 3; i <= 160; i++) {
            due("byte", x.feed(32), i);
        }
        due("byte 161", x.feed(32), FULL);
        due("bad ahead of full", x.feed(999), BAD);
        due("bytes", x.count(8), 160);
        due("yard", x.yard(), -1000100);
        due("bytes", x.count(8), 0);
    }

    private static void yard() {
        promise = 7;
        CoalGrate x = of("g30,9;c11,30;c11,1;w12;k12;d11;h0;m10;w9;ew60;ek0;ed9;eh09;");
        due("things", x.count(1), 6);
        due("coals", x.count(2), 2);
        due("eaters", x.count(3), 4);
        due("a figure 0 ahead", x.eater(3, 1), 9);
        due("no coal is fresh", x.heat(11), 31);
        x.minutes(3);
        tell(x, "g01,0;");
        due("a yard without anything", x.yard(), 0);
        due("minute", x.count(4), 0);
        due("acts", x.undo(), STATE);
        faultDue("", 0, 1);
        faultDue("g", 1, 1);
        faultDue("x", 0, 1);
        faultDue("1", 0, 1);
        faultDue("g1,0", 4, 1);
        faultDue("g1,0; ", 5, 1);
        faultDue("g1,0;G", 5, 1);
        faultDue("g1,0;;", 5, 1);
        faultDue("g1,0;g", 5, 1);
        faultDue("g100,0;", 1, 1);
        faultDue("g1000,0;", 1, 1);
        faultDue("123", 0, 1);
        faultDue("g1,000;", 3, 1);
        faultDue("g1,0;w0,", 7, 1);
        faultDue("g1,0;c0;", 7, 1);
        faultDue("g1,0;e0;", 6, 1);
        faultDue("g1,0;ee0;", 6, 1);
        faultDue("g1,0;ew0;w0;", 9, 1);
        faultDue("g1,0;ew0;c0,1;", 9, 1);
        faultDue("g1,0;w0;c0,1;", 8, 1);
        faultDue("g1,0;w" + (char) 200 + ";", 6, 1);
    }

    private static void yardNumbersAndRoom() {
        faultDue("g0,0;", 1, 2);
        faultDue("g31,x;", 1, 2);
        faultDue("g30,10;", 4, 2);
        faultDue("g1,0;c12,1;", 6, 2);
        faultDue("g1,0;c11,0;", 9, 2);
        faultDue("g1,0;c11,31;", 9, 2);
        faultDue("g1,0;w13;", 6, 2);
        faultDue("g1,0;w3;h3;", 9, 2);
        faultDue("g1,0;w3;h03;", 9, 2);
        faultDue("g1,0;w3;h3,", 9, 2);
        faultDue("g1,0;ew61;", 7, 2);
        String coals = "g1,0;c0,1;c0,1;c0,1;c0,1;c0,1;c0,1;c0,1;c0,1;";
        due("8 coals", of(coals).count(2), 8);
        faultDue(coals + "c", 45, 3);
        faultDue(coals + "c0,1;", 45, 3);
        String things = "g1,0;w0;w1;w2;w3;w4;w12;";
        due("6 things", of(things).count(1), 6);
        faultDue(things + "k", 24, 3);
        faultDue(things + "c", 24, 1);
        String eaters = "g1,0;ew0;ew0;ew0;ew0;";
        due("4 eaters", of(eaters).count(3), 4);
        faultDue(eaters + "e", 21, 3);
        faultDue(eaters + "w", 21, 1);
    }

    private static void fault() {
        promise = 8;
        CoalGrate x = new CoalGrate();
        due("before one", x.fault(), 0);
        tell(x, "g0,0;");
        x.yard();
        due("a number", x.fault(), 2);
        tell(x, "g1,0;");
        x.yard();
        due("the latest stays", x.fault(), 2);
        x.yard();
        due("the end", x.fault(), 1);
    }

    private static void minutes() {
        promise = 9;
        due("no yard ahead of bad", new CoalGrate().minutes(0), STATE);
        CoalGrate x = of("g3,0;c0,10;w0;h12;");
        due("0", x.minutes(0), BAD);
        due("25", x.minutes(25), BAD);
        due("1", x.minutes(1), 1);
        due("skin", x.thing(0, 2), 10);
        due("core", x.thing(0, 1), 1);
        due("fat", x.heat(0), 13);
        due("2", x.minutes(2), 3);
        due("skin", x.thing(0, 2), 36);
        due("core", x.thing(0, 1), 7);
        due("sunk", x.ember(0, 1), 9);
        due("acts", x.count(7), 3);
        x.move(0, 12);
        x.minutes(13);
        due("aside", x.thing(0, 2), 0);
        due("aside the core stays", x.thing(0, 1), 7);
        due("burnt?", x.thing(0, 5), 0);
        for (int m = 40; m <= 400; m += 24) {
            x.minutes(24);
        }
        due("400 are gone", x.count(4), 400);
        due("401", x.minutes(1), FULL);
        due("bad ahead of full", x.minutes(99), BAD);
        CoalGrate y = of("g1,0;");
        for (int k = 0; k < 16; k++) {
            y.minutes(24);
        }
        due("384 and 17", y.minutes(17), FULL);
        due("384 and 16", y.minutes(16), 400);
    }

    /** By a wind of 1 alone a skin grows by 1 in a minute, so that each limit is met at its edge. */
    private static void limits() {
        String sorts = "wkdhm";
        int[] limit = {90, 120, 45, 70, 100};
        int[] thick = {8, 16, 4, 6, 10};
        int[] need = {40, 80, 20, 15, 50};
        for (int k = 0; k < 5; k++) {
            CoalGrate x = of("g1,1;" + sorts.charAt(k) + "0;");
            int core = 0;
            for (int m = 1; m <= limit[k]; m++) {
                x.minutes(1);
                core += m / thick[k];
                due("core of " + sorts.charAt(k), x.thing(0, 1), core);
            }
            due("at the limit", x.thing(0, 5), 0);
            x.minutes(1);
            due("above the limit", x.thing(0, 5), 1);
            x.move(0, 12);
            x.minutes(24);
            due("it stays burnt", x.thing(0, 5), 1);
            due("need of " + sorts.charAt(k), throughAt(sorts.charAt(k)), need[k]);
        }
    }

    /** The least core at which a thing of that sort was ever seen to be through, over many fires. */
    private static int throughAt(char sort) {
        int least = HIGH;
        for (int fire = 1; fire <= 30; fire++) {
            CoalGrate x = of("g30,0;c1," + fire + ";" + sort + "1;");
            for (int m = 0; m < 50; m++) {
                least = x.thing(0, 6) == 1 ? Math.min(least, x.thing(0, 1)) : least;
                x.minutes(1);
            }
        }
        return least;
    }

    private static void turn() {
        promise = 10;
        CoalGrate x = of("g30,0;c0,10;h0;w12;eh0;");
        due("turn", x.turn(0), 1);
        x.minutes(1);
        due("side 1 was below", x.thing(0, 3), 10);
        due("turn", x.turn(0), 0);
        x.minutes(1);
        due("the other one 2 less", x.thing(0, 3), 8);
        due("side 0", x.thing(0, 2), 10);
        due("core by both", x.thing(0, 1), 1 + 3);
        x.move(0, 12);
        x.minutes(1);
        due("aside both are 3 less", x.thing(0, 2), 7);
        due("aside both are 3 less", x.thing(0, 3), 5);
        x.minutes(2);
        due("0 at least", x.thing(0, 3), 0);
        x.move(0, 0);
        due("aside, too", x.turn(1), 1);
        due("no such", x.turn(2), BAD);
        due("no such", x.turn(-1), BAD);
        x.minutes(5);
        x.serve(0, 0);
        due("served", x.turn(0), STATE);
    }

    private static void move() {
        promise = 11;
        CoalGrate x = of("g30,0;c0,10;h0;w12;k3;eh0;");
        due("from aside", x.move(1, 5), 12);
        due("from 5", x.move(1, 5), 5);
        due("taken", x.move(1, 3), STATE);
        due("aside", x.move(2, 12), 3);
        due("aside, two of them", x.move(1, 12), 5);
        due("free now", x.move(1, 3), 12);
        due("13", x.move(1, 13), BAD);
        due("-1", x.move(1, -1), BAD);
        due("no such", x.move(3, 0), BAD);
        x.minutes(4);
        x.serve(0, 0);
        due("served", x.move(0, 7), STATE);
        due("bad ahead of state", x.move(0, 13), BAD);
        due("its cell is free", x.move(1, 0), 3);
    }

    private static void coal() {
        promise = 12;
        due("no yard", new CoalGrate().coal(99, 99), STATE);
        CoalGrate x = of("g1,0;");
        due("cell 12", x.coal(12, 1), BAD);
        due("cell -1", x.coal(-1, 1), BAD);
        due("fire 0", x.coal(0, 0), BAD);
        due("fire 31", x.coal(0, 31), BAD);
        due("first", x.coal(0, 30), 1);
        due("fresh", x.ember(0, 2), 2);
        due("it only smokes", x.heat(0), 0);
        x.minutes(1);
        due("fresh", x.ember(0, 2), 1);
        due("smokes", x.heat(0), 0);
        x.minutes(1);
        due("fresh no more; it sank", x.heat(0), 28);
        for (int k = 2; k <= 8; k++) {
            due("more", x.coal(0, 1), k);
        }
        due("full", x.coal(0, 1), FULL);
        due("bad ahead of full", x.coal(0, 0), BAD);
    }

    private static void water() {
        promise = 13;
        due("no yard", new CoalGrate().water(), STATE);
        CoalGrate x = of("g30,0;c0,10;c1,2;c2,3;");
        due("water", x.water(), 8);
        due("water", x.water(), 3);
        due("fire", x.count(6), 4);
        x.coal(3, 5);
        due("fresh ones, too", x.water(), 6);
        due("acts", x.count(7), 4);
        x.water();
        due("none left", x.water(), 0);
    }

    private static void serve() {
        promise = 14;
        CoalGrate x = of("g30,0;c0,10;h0;h1;h12;eh5;ew0;eh0;");
        due("no such thing", x.serve(3, 0), BAD);
        due("no such eater", x.serve(0, 3), BAD);
        due("no such eater", x.serve(0, -1), BAD);
        due("not through", x.serve(0, 2), STATE);
        x.minutes(3);
        due("core 9", x.serve(0, 2), STATE);
        x.minutes(1);
        due("not come", x.serve(0, 0), STATE);
        due("another sort", x.serve(0, 1), STATE);
        due("served", x.serve(0, 2), 1);
        due("twice", x.serve(0, 0), STATE);
        x.minutes(2);
        due("the eater was served", x.serve(1, 2), STATE);
        due("he has come", x.serve(1, 0), 2);
        due("served", x.count(5), 2);
        CoalGrate y = of(CHEESE + "eh0;");
        y.minutes(7);
        due("burnt at 70?", y.thing(0, 5), 0);
        y.minutes(1);
        due("burnt", y.serve(0, 0), STATE);
        CoalGrate z = of("g30,0;c0,10;d0;ew0;");
        z.minutes(4);
        due("a thin one is through", z.thing(0, 6), 1);
        due("sorts, not kinds", z.serve(0, 0), STATE);
    }

    private static void undo() {
        promise = 15;
        CoalGrate x = of("g1,0;c0,10;h0;w12;eh0;");
        due("none", x.undo(), STATE);
        x.minutes(2);
        x.turn(0);
        x.move(1, 3);
        x.coal(3, 9);
        x.water();
        due("water", x.undo(), 5);
        due("fire", x.count(6), 8 + 9);
        due("coal", x.undo(), 4);
        due("coals", x.count(2), 1);
        due("move", x.undo(), 3);
        due("where", x.thing(1, 0), 12);
        due("turn", x.undo(), 2);
        due("side", x.thing(0, 4), 0);
        due("minute", x.undo(), 1);
        due("minute", x.count(4), 1);
        due("skin", x.thing(0, 2), 10);
        due("fire", x.ember(0, 1), 9);
        due("minute", x.undo(), 0);
        due("core", x.thing(0, 1), 0);
        due("none", x.undo(), STATE);
        x.minutes(5);
        due("serve", x.serve(0, 0), 1);
        due("serve undone", x.undo(), 5);
        due("eater", x.eater(0, 2), NONE);
        due("thing", x.thing(0, 0), 0);
        x.minutes(24);
        x.minutes(24);
        due("24 are kept", x.count(7), 24);
        due("undo", x.undo(), 23);
        for (int k = 22; k >= 0; k--) {
            due("undo", x.undo(), k);
        }
        due("the oldest are forgotten", x.undo(), STATE);
        due("minute", x.count(4), 29);
        due("refused acts are none", x.move(9, 9), BAD);
        due("acts", x.count(7), 0);
    }

    private static void thing() {
        promise = 16;
        CoalGrate x = of(CHEESE + "m12;eh0;");
        due("aside", x.thing(1, 0), 12);
        due("what 7", x.thing(0, 7), BAD);
        due("what -1", x.thing(0, -1), BAD);
        due("no such", x.thing(2, 0), BAD);
        due("no such", x.thing(-1, 0), BAD);
        x.minutes(4);
        x.turn(0);
        x.minutes(1);
        due("core", x.thing(0, 1), 15 + 8);
        due("side 0", x.thing(0, 2), 38);
        due("side 1", x.thing(0, 3), 10);
        due("below", x.thing(0, 4), 1);
        due("burnt", x.thing(0, 5), 0);
        due("through", x.thing(0, 6), 1);
        x.serve(0, 0);
        x.minutes(3);
        due("nowhere", x.thing(0, 0), NONE);
        due("it stays as it is", x.thing(0, 2), 38);
        due("it stays as it is", x.thing(0, 1), 23);
    }

    private static void eater() {
        promise = 17;
        CoalGrate x = of("g30,0;c0,10;w12;h0;ew60;eh4;");
        due("kind", x.eater(0, 0), 1);
        due("kind", x.eater(1, 0), 4);
        due("minute", x.eater(0, 1), 60);
        due("served", x.eater(1, 2), NONE);
        x.minutes(4);
        x.serve(1, 1);
        due("served", x.eater(1, 2), 1);
        due("what 3", x.eater(0, 3), BAD);
        due("what -1", x.eater(0, -1), BAD);
        due("eater 2", x.eater(2, 0), BAD);
        due("eater -1", x.eater(-1, 0), BAD);
    }

    private static void ember() {
        promise = 18;
        CoalGrate x = of("g2,0;c11,1;c3,30;");
        x.coal(4, 7);
        due("cell", x.ember(0, 0), 11);
        due("fire", x.ember(1, 1), 30);
        due("fresh", x.ember(1, 2), 0);
        due("fresh", x.ember(2, 2), 2);
        x.minutes(4);
        due("0 at least", x.ember(0, 1), 0);
        due("fire", x.ember(1, 1), 28);
        due("a fresh one sinks, too", x.ember(2, 1), 5);
        due("fresh", x.ember(2, 2), 0);
        due("coal 3", x.ember(3, 0), BAD);
        due("coal -1", x.ember(-1, 0), BAD);
        due("what 3", x.ember(0, 3), BAD);
        due("what -1", x.ember(0, -1), BAD);
    }

    private static void heat() {
        promise = 19;
        due("no yard", new CoalGrate().heat(99), STATE);
        CoalGrate x = of("g30,4;c5,9;c5,7;c6,3;c3,5;c4,1;");
        due("there, and half beside", x.heat(5), 16 + 1 + 0);
        due("each cut by itself", x.heat(1), 4 + 3);
        due("wind, none beside over the edge", x.heat(4), 1 + 7 + 4);
        due("wind alone", x.heat(0), 4);
        due("half of 5 and of 3", x.heat(2), 2 + 1);
        due("of 5", x.heat(7), 2 + 1);
        due("not beside", x.heat(11), 0);
        due("12", x.heat(12), BAD);
        due("-1", x.heat(-1), BAD);
        CoalGrate y = of("g30,5;c0,1;w0;h4;k8;");
        y.minutes(2);
        due("fat", y.heat(0), 1 + 3 + 5);
        due("cheese has none", y.heat(4), 0 + 5);
        due("no fire, no fat", y.heat(8), 5);
        y.turn(0);
        due("skin below", y.heat(0), 1 + 5);
        y.turn(0);
        y.move(0, 12);
        due("nothing there", y.heat(0), 6);
        CoalGrate z = of("g30,0;c0,9;d0;");
        z.minutes(1);
        due("skin 9", z.heat(0), 9);
        CoalGrate f = of("g30,0;c0,10;d0;");
        f.minutes(1);
        due("skin 10", f.heat(0), 13);
    }

    private static void foretoldOfOne() {
        promise = 20;
        CoalGrate x = of("g30,0;c0,10;h0;w12;eh0;");
        due("now", x.ahead(0, 0, 1), 0);
        due("core", x.ahead(0, 4, 0), 15);
        due("below", x.ahead(0, 4, 1), 40);
        due("burnt", x.ahead(0, 7, 3), 0);
        due("burnt", x.ahead(0, 8, 3), 1);
        due("60", x.ahead(0, 60, 1), 300 + 270);
        due("61", x.ahead(0, 61, 0), BAD);
        due("-1", x.ahead(0, -1, 0), BAD);
        due("what", x.ahead(0, 0, 4), BAD);
        due("what", x.ahead(0, 0, -1), BAD);
        due("no such", x.ahead(2, 0, 0), BAD);
        x.minutes(4);
        x.turn(0);
        due("above", x.ahead(0, 3, 2), 34);
        due("nothing changes", x.thing(0, 1), 15);
        x.serve(0, 0);
        due("served", x.ahead(0, 0, 0), STATE);
        due("bad ahead", x.ahead(0, 61, 0), BAD);
        due("aside", x.ahead(1, 9, 1), 0);
        promise = 22;
        due("served", x.ready(0), STATE);
        due("aside", x.ready(1), NONE);
        due("no such", x.ready(2), BAD);
        CoalGrate y = of(CHEESE);
        due("ready", y.ready(0), 4);
        y.minutes(4);
        due("ready now", y.ready(0), 0);
        y.move(0, 12);
        due("ready aside", y.ready(0), 0);
        y.move(0, 0);
        y.minutes(4);
        due("burnt", y.ready(0), NONE);
        due("through and burnt by the same minute", of("g30,0;c0,30;c0,30;c0,30;h0;").ready(0), NONE);
    }

    private static void heatAhead() {
        promise = 21;
        due("no yard", new CoalGrate().heatAhead(-1, -1), STATE);
        CoalGrate x = of("g2,1;c0,10;w0;");
        due("now", x.heatAhead(0, 0), 11);
        due("fat", x.heatAhead(0, 1), 14);
        due("sunk", x.heatAhead(0, 4), 10 - 2 + 3 + 1);
        due("out: no fat", x.heatAhead(0, 20), 1);
        due("beside", x.heatAhead(1, 4), 4);
        x.coal(11, 8);
        due("fresh", x.heatAhead(11, 1), 0);
        due("fresh no more", x.heatAhead(11, 2), 7);
        due("60", x.heatAhead(11, 60), 0);
        due("61", x.heatAhead(11, 61), BAD);
        due("-1", x.heatAhead(11, -1), BAD);
        due("12", x.heatAhead(12, 0), BAD);
    }

    private static void whereAndInTime() {
        promise = 23;
        CoalGrate x = of("g30,0;c0,10;h5;w2;eh0;");
        due("over the coal", x.where(0), 0);
        due("no such", x.where(2), BAD);
        promise = 24;
        due("3 minutes", x.inTime(0, 3), 0);
        due("4 minutes", x.inTime(0, 4), 1);
        due("6 minutes", x.inTime(0, 6), 1 + 2 + 16);
        due("60 minutes", x.inTime(0, 60), 1 + 2 + 16);
        due("61", x.inTime(0, 61), BAD);
        due("-1", x.inTime(0, -1), BAD);
        due("no such", x.inTime(2, 0), BAD);
        x.move(1, 0);
        due("taken", x.inTime(0, 60), 2 + 16);
        promise = 23;
        due("of several the least", x.where(0), 1);
        x.move(0, 4);
        due("its own is no sooner", x.where(0), 1);
        x.move(1, 1);
        x.move(0, 0);
        due("its own", x.where(0), 0);
        x.minutes(4);
        due("ready now: the least cell", x.where(0), 0);
        x.move(0, 12);
        x.move(1, 0);
        due("ready aside: the least free cell", x.where(0), 1);
        promise = 24;
        due("all free cells", x.inTime(0, 0), 4095 - 1);
        x.serve(0, 0);
        due("served", x.inTime(0, 0), STATE);
        promise = 23;
        due("served", x.where(0), STATE);
        due("none", of("g30,0;h0;").where(0), NONE);
    }

    private static void flips() {
        promise = 25;
        CoalGrate x = of("g30,0;c0,8;d0;h12;ed0;");
        due("3 minutes", x.flips(0, 3, 0), NONE);
        due("none is wanted", x.flips(0, 4, 0), 0);
        due("none is wanted", x.flips(0, 4, 1), 0);
        due("one", x.flips(0, 5, 0), 1);
        due("ahead of minute 1", x.flips(0, 5, 1), 2);
        due("0 minutes", x.flips(0, 0, 0), BAD);
        due("13 minutes", x.flips(0, 13, 0), BAD);
        due("what", x.flips(0, 1, 2), BAD);
        due("what", x.flips(0, 1, -1), BAD);
        due("no such", x.flips(2, 1, 0), BAD);
        due("aside", x.flips(1, 1, 0), STATE);
        due("bad ahead of state", x.flips(1, 0, 0), BAD);
        x.minutes(4);
        x.serve(0, 0);
        due("served", x.flips(0, 1, 0), STATE);
        CoalGrate z = of("g4,0;c0,27;w0;");
        z.turn(0);
        z.coal(0, 3);
        z.minutes(1);
        due("three", z.flips(0, 5, 0), 3);
        due("14 and 21 do: the least", z.flips(0, 5, 1), 14);
        CoalGrate y = of("g1,0;c0,30;d0;");
        y.minutes(2);
        due("burnt is never mended", y.flips(0, 12, 1), NONE);
    }

    private static void start() {
        promise = 26;
        CoalGrate x = of("g30,0;c0,10;h12;w1;eh0;");
        due("4 minutes before", x.start(0, 0, 10), 6);
        due("at once", x.start(0, 0, 4), 0);
        due("too late", x.start(0, 0, 3), NONE);
        due("60", x.start(0, 0, 60), 55);
        due("61", x.start(0, 0, 61), BAD);
        due("0", x.start(0, 0, 0), BAD);
        due("cell 12", x.start(0, 12, 9), BAD);
        due("cell -1", x.start(0, -1, 9), BAD);
        due("no such", x.start(2, 0, 9), BAD);
        due("taken", x.start(0, 1, 9), STATE);
        due("its own", x.start(1, 1, 9), NONE);
        x.move(0, 0);
        x.minutes(4);
        due("through already", x.start(0, 4, 9), 9);
        x.serve(0, 0);
        due("served", x.start(0, 4, 9), STATE);
        due("bad ahead of state", x.start(0, 4, 0), BAD);
        CoalGrate y = of(CHEESE);
        y.minutes(3);
        due("skins cool aside till then", y.start(0, 0, 5), 3);
        due("skins cool aside till then", y.start(0, 0, 20), 17);
    }

    private static void fuelFor() {
        promise = 27;
        CoalGrate x = of("g30,0;h0;w12;eh0;");
        due("6 minutes, 2 of smoke", x.fuelFor(0, 6), 10);
        due("2 minutes", x.fuelFor(0, 2), NONE);
        due("0", x.fuelFor(0, 0), BAD);
        due("61", x.fuelFor(0, 61), BAD);
        due("no such", x.fuelFor(2, 1), BAD);
        due("aside", x.fuelFor(1, 1), STATE);
        due("bad ahead of state", x.fuelFor(1, 61), BAD);
        x.coal(0, 10);
        due("without", x.fuelFor(0, 6), 0);
        for (int k = 2; k <= 8; k++) {
            x.coal(11, 1);
        }
        due("full", x.fuelFor(0, 6), FULL);
        due("state ahead of full", x.fuelFor(1, 6), STATE);
        x.minutes(6);
        x.serve(0, 0);
        due("served", x.fuelFor(0, 6), STATE);
        due("30", of("g30,0;h0;").fuelFor(0, 4), 30);
        due("a coal that sinks", of("g1,0;h0;").fuelFor(0, 6), 13);
    }

    private static void servable() {
        promise = 28;
        due("no yard", new CoalGrate().servable(-1, -9), STATE);
        CoalGrate x = of("g30,0;c0,10;h0;h1;w3;eh0;eh3;eh9;ew0;");
        due("none yet", x.servable(3, -1), 0);
        due("one", x.servable(4, -1), 1);
        due("first", x.servable(4, 0), 0);
        due("second", x.servable(4, 1), NONE);
        due("two", x.servable(6, -1), 2);
        due("first", x.servable(6, 0), 0);
        due("second", x.servable(6, 1), 1);
        due("not come", x.servable(6, 2), NONE);
        due("raw sausage", x.servable(6, 3), NONE);
        due("one is burnt", x.servable(8, -1), 1);
        due("the other one", x.servable(8, 0), 1);
        due("61", x.servable(61, -1), BAD);
        due("-1", x.servable(-1, -1), BAD);
        due("eater 4", x.servable(0, 4), BAD);
        due("eater -2", x.servable(0, -2), BAD);
        x.minutes(6);
        x.serve(0, 0);
        due("was served", x.servable(0, 0), NONE);
        due("the next", x.servable(0, 1), 1);
        due("how many", x.servable(0, -1), 1);
        due("he comes just then", of("g30,0;c0,10;h0;eh4;").servable(4, 0), 0);
        CoalGrate y = of("g30,0;c0,10;h0;h1;eh9;eh0;");
        due("who has not come takes none", y.servable(6, 1), 0);
    }

    private static void hand() {
        promise = 29;
        due("no yard", new CoalGrate().hand(0, 9), STATE);
        CoalGrate x = of("g30,0;c0,10;h0;h12;h1;");
        due("cold: none is turned", x.hand(1, 2), 0);
        due("once", x.hand(2, 2), 1);
        due("it lies on the cold side then, the other is next", x.hand(3, 2), 2);
        due("10 minutes: through", x.hand(10, 1), 1 + 4);
        due("not yet", x.hand(3, 1), 0);
        due("burnt in the end", x.hand(60, 0), 1 + 4);
        due("none is through and not burnt", x.hand(60, 1), 0);
        due("0", x.hand(0, 0), BAD);
        due("61", x.hand(61, 0), BAD);
        due("what 3", x.hand(1, 3), BAD);
        due("what -1", x.hand(1, -1), BAD);
        due("nothing changes", x.thing(0, 4), 0);
        due("of several the first", of("g30,0;c0,10;c2,10;h0;h2;").hand(2, 2), 1);
        CoalGrate y = of("g30,0;c0,10;h0;h3;eh0;");
        y.minutes(4);
        y.serve(0, 0);
        due("served ones not", y.hand(1, 1), 0);
        due("served ones are not turned", y.hand(1, 2), 0);
    }

    private static void judged() {
        promise = 30;
        due("no yard", new CoalGrate().judged(9, 0, 0), STATE);
        CoalGrate x = of("g30,0;c0,8;d0;h12;ed0;");
        x.row(0, 0, 5);
        for (int i = 0; i < 5; i++) {
            x.set(0, i, i == 1 ? 0 : -1);
        }
        due("turned ahead of minute 1", x.judged(0, 0, 5), 1);
        due("status", x.status(), 0);
        due("4 minutes are told", x.judged(0, 2, 3), 0);
        due("none", x.judged(0, 5, 0), 0);
        x.set(0, 1, -1);
        due("burnt without", x.judged(0, 0, 5), 0);
        x.set(0, 1, 1);
        due("aside, too", x.judged(0, 0, 4), 1);
        x.set(0, 4, 2);
        due("no such", x.judged(0, 0, 5), BAD);
        x.set(0, 4, -2);
        due("no such", x.judged(0, 0, 5), BAD);
        due("beyond", x.judged(0, 1, 5), PLACE);
        due("below", x.judged(0, -1, 2), PLACE);
        due("far", x.judged(0, HIGH, 2), PLACE);
        due("status", x.status(), 2);
        due("no such ahead, the status stays", x.judged(0, 0, 5), BAD);
        due("status", x.status(), 2);
        due("missing", x.judged(1, -1, 2), NULL);
        due("row 8", x.judged(8, 0, 0), BAD);
        due("n 41", x.judged(1, 0, 41), BAD);
        due("n -1", x.judged(1, 0, -1), BAD);
        x.minutes(4);
        due("now", x.judged(0, 0, 0), 1);
        x.serve(0, 0);
        due("served", x.judged(0, 0, 0), 0);
        x.set(0, 0, 0);
        due("a served one", x.judged(0, 0, 1), BAD);
        x.row(2, 2, 40);
        for (int i = 0; i < 40; i++) {
            x.set(2, i, -1);
        }
        due("40", x.judged(2, 0, 40), 0);
    }

    private static void fuel() {
        promise = 31;
        due("no yard", new CoalGrate().fuel(), STATE);
        due("no coal", of("g1,0;").fuel(), 0);
        CoalGrate x = of("g3,0;c0,10;c1,2;");
        due("30", x.fuel(), 30);
        x.minutes(1);
        due("29", x.fuel(), 29);
        x.coal(3, 11);
        due("a fresh one", x.fuel(), 32);
        x.water();
        due("water", x.fuel(), 23);
        CoalGrate y = of("g30,0;c0,7;");
        due("210", y.fuel(), NONE);
        y.minutes(9);
        due("201", y.fuel(), NONE);
        y.minutes(1);
        due("200", y.fuel(), 200);
    }

    private static void imageAndRestore() {
        promise = 32;
        CoalGrate x = new CoalGrate();
        due("2", x.image(2), BAD);
        due("-1", x.image(-1), BAD);
        due("no yard", x.image(1), STATE);
        promise = 33;
        due("2", x.restore(2), BAD);
        due("-1", x.restore(-1), BAD);
        due("none was kept", x.restore(0), STATE);
        tell(x, CHEESE + "m4;eh0;");
        x.yard();
        x.minutes(4);
        x.turn(0);
        x.coal(9, 9);
        promise = 32;
        due("image", x.image(0), 1);
        due("acts stay", x.count(7), 6);
        x.serve(0, 0);
        due("image", x.image(1), 1);
        tell(x, "g1,9;w3;");
        x.yard();
        promise = 33;
        due("restore", x.restore(1), 1);
        due("served", x.count(5), 1);
        due("things", x.count(1), 2);
        due("kinds", x.kind(1), 5);
        due("restore", x.restore(0), 1);
        due("served", x.count(5), 0);
        due("eater", x.eater(0, 2), NONE);
        due("minute", x.count(4), 4);
        due("core", x.thing(0, 1), 15);
        due("side", x.thing(0, 4), 1);
        due("fresh", x.ember(1, 2), 2);
        due("no act", x.undo(), STATE);
        x.minutes(1);
        due("an image stays as it was", x.restore(0), 1);
        due("minute", x.count(4), 4);
        due("wind of old", x.heat(8), 0);
    }

    private static void kinds() {
        promise = 34;
        CoalGrate x = of("g30,0;w0;k1;d2;h3;m12;");
        for (int i = 0; i < 5; i++) {
            due("kind", x.kind(i), i + 1);
        }
        due("no such", x.kind(5), BAD);
        due("no such", x.kind(-1), BAD);
        promise = 35;
        int[] are = {0b000011, 0b000111, 0b001011, 0b010001, 0b110001};
        for (int i = 0; i < 5; i++) {
            for (int k = 0; k < 6; k++) {
                boolean is = (are[i] >> k & 1) == 1;
                due("thing " + i + " as " + k, x.as(i, k), is ? i : KIND);
                due("status", x.status(), is ? 0 : 3);
            }
        }
        due("kind 6", x.as(0, 6), BAD);
        due("kind -1", x.as(0, -1), BAD);
        due("no such", x.as(5, 0), BAD);
    }

    private static void traceDue(CoalGrate x, int... bodies) {
        for (int i = 0; i < bodies.length; i++) {
            due("trace " + i, x.trace(i), bodies[i]);
        }
        due("trace end", x.trace(bodies.length), NONE);
    }

    private static void asks() {
        promise = 36;
        CoalGrate x = of("g30,0;c0,10;c2,16;h8;w0;k2;d10;h4;m1;");
        x.minutes(3);
        due("size of a sausage", x.ask(1, 0), 7 + 1 + 36);
        traceDue(x, 11, 10, 21, 20);
        due("mark of a sausage", x.ask(1, 1), 1 + 36);
        traceDue(x, 21, 20);
        due("size of chicken", x.ask(2, 0), -(6 + 2 * (2 + 54)));
        traceDue(x, 12, 11, 10, 24, 21, 20);
        due("mark of chicken", x.ask(2, 1), 2 * (2 + 54));
        traceDue(x, 24, 21, 20);
        due("size of a thin one", x.ask(3, 0), 0 + 3 - 1000);
        traceDue(x, 11, 10, 22, 21, 20);
        due("mark of a thin one", x.ask(3, 1), 3 - 1000);
        traceDue(x, 22, 21, 20);
        due("size of cheese", x.ask(4, 0), 3 - 100);
        traceDue(x, 13, 10);
        due("mark of cheese", x.ask(4, 1), 4 - (3 - 100));
        traceDue(x, 23, 20, 13, 10);
        due("size of corn", x.ask(5, 0), 2 * (6 - 100));
        traceDue(x, 14, 13, 10);
        due("mark of corn", x.ask(5, 1), 5 - 2 * (6 - 100));
        traceDue(x, 23, 20, 14, 13, 10);
        due("no such", x.ask(6, 0), BAD);
        due("what 2", x.ask(0, 2), BAD);
        due("what -1", x.ask(0, -1), BAD);
        promise = 37;
        traceDue(x, 23, 20, 14, 13, 10);
        due("-1", x.trace(-1), NONE);
        due("16", x.trace(16), NONE);
        due("far", x.trace(HIGH), NONE);
        due("far", x.trace(LOW), NONE);
    }

    private static void countAndStatus() {
        promise = 38;
        CoalGrate x = of("g1,0;c0,10;c1,5;h0;w3;eh0;eh0;eh0;");
        x.row(5, 0, 0);
        x.minutes(5);
        x.serve(0, 2);
        tell(x, "abc");
        int[] want = {1, 2, 2, 3, 5, 1, 5, 6, 3};
        for (int what = 0; what <= 8; what++) {
            due("count " + what, x.count(what), want[what]);
        }
        due("9", x.count(9), BAD);
        due("-1", x.count(-1), BAD);
        promise = 39;
        due("none", x.status(), 0);
        x.as(0, 1);
        due("kind", x.status(), 3);
        x.turn(0);
        x.minutes(0);
        x.row(9, 0, 0);
        x.feed(-1);
        due("refused ones and others leave it", x.status(), 3);
        x.drop(6);
        due("missing", x.status(), 1);
        x.judged(5, 0, 0);
        due("none", x.status(), 0);
    }

    public static void main(String[] args) {
        newObject();
        row();
        set();
        copy();
        drop();
        feed();
        yard();
        yardNumbersAndRoom();
        fault();
        minutes();
        limits();
        turn();
        move();
        coal();
        water();
        serve();
        undo();
        thing();
        eater();
        ember();
        heat();
        foretoldOfOne();
        heatAhead();
        whereAndInTime();
        flips();
        start();
        fuelFor();
        servable();
        hand();
        judged();
        fuel();
        imageAndRestore();
        kinds();
        asks();
        countAndStatus();
        System.out.println(wrong == 0 ? "all promises hold" : wrong + " answers are not as due");
        if (wrong != 0) {
            System.exit(1);
        }
    }
}
