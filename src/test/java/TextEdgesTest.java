/** Edges of promises 6 to 8: THE TAPE, TEXTS and their FAULTS (terms 1). */
public final class TextEdgesTest {
    private static final int BAD = Due.BAD, STATE = Due.STATE, FULL = Due.FULL, NONE = Due.NONE;
    private static final int LOW = Due.LOW, HIGH = Due.HIGH;
    private static final int CANNOT_STAND = 1, NOT_AS_TOLD = 2, NO_ROOM = 3;
    private static final String SORTS = "wkdhm";
    private static final String EIGHT_COALS = "g1,0;c0,1;c0,1;c0,1;c0,1;c0,1;c0,1;c0,1;c0,1;";
    private static final String SIX_THINGS = "g1,0;w0;k1;d2;h3;m4;w12;";
    private static final String FOUR_EATERS = "g1,0;ew0;ek0;ed0;eh0;";

    private static void faultDue(String text, int fault, int place) {
        CoalGrate x = new CoalGrate();
        Due.tell(x, text);
        Due.is("yard of '" + text + "'", x.yard(), -1000100 - place);
        Due.is("fault of '" + text + "'", x.fault(), fault);
        Due.is("bytes behind '" + text + "'", x.count(8), 0);
        Due.is("no yard by '" + text + "'", x.heat(0), STATE);
    }

    private static void readDue(String text, int things) {
        CoalGrate x = new CoalGrate();
        Due.tell(x, text);
        Due.is("yard of '" + text + "'", x.yard(), things);
        Due.is("fault of '" + text + "'", x.fault(), 0);
        Due.is("things of '" + text + "'", x.count(1), things);
    }

    private static void feeds() {
        Due.promise(6, "A byte (0 to 255) comes behind the tape: how many it has");
        CoalGrate x = new CoalGrate();
        Due.is("-1", x.feed(-1), BAD);
        Due.is("256", x.feed(256), BAD);
        Due.is("the least", x.feed(LOW), BAD);
        Due.is("the most", x.feed(HIGH), BAD);
        Due.is("g and 256", x.feed('g' + 256), BAD);
        Due.is("no byte", x.count(8), 0);
        Due.is("0", x.feed(0), 1);
        Due.is("255", x.feed(255), 2);
        Due.is("two bytes", x.count(8), 2);
        Due.promise(6, "THE TAPE has at most 160 bytes; BAD; FULL");
        for (int n = 3; n <= 160; n++) {
            Due.is("byte " + n, x.feed('g'), n);
        }
        Due.is("byte 161", x.feed('g'), FULL);
        Due.is("byte 161 again", x.feed(0), FULL);
        Due.is("BAD comes first: -1", x.feed(-1), BAD);
        Due.is("BAD comes first: 256", x.feed(256), BAD);
        Due.is("bytes", x.count(8), 160);
        Due.promise(7, "The tape, empty then");
        Due.is("its fault", x.yard(), -1000100);
        Due.is("bytes", x.count(8), 0);
        for (int n = 1; n <= 160; n++) {
            Due.is("byte " + n, x.feed(n <= 5 ? "g1,0;".charAt(n - 1) : 'w'), n);
        }
        Due.is("full again", x.feed('w'), FULL);
        Due.is("w where its CELL was due", x.yard(), -1000106);
    }

    private static void tapeEmptied() {
        Due.promise(7, "The tape, empty then, is read: how many THINGS there are");
        CoalGrate x = new CoalGrate();
        Due.tell(x, "g1,0;w0;");
        Due.is("one", x.yard(), 1);
        Due.is("bytes", x.count(8), 0);
        Due.is("an empty tape is a fault", x.yard(), -1000100);
        Due.is("the thing is there yet", x.count(1), 1);
        Due.tell(x, "g1,0;w0;h1;");
        Due.is("two", x.yard(), 2);
        Due.tell(x, "g1,0;");
        Due.is("none", x.yard(), 0);
        Due.tell(x, SIX_THINGS);
        Due.is("six", x.yard(), 6);
    }

    /** Each token of a text that has all of them, with what may stand in its place. */
    private static void everyByteAtEveryToken() {
        Due.promise(7, "1 it cannot stand there, or is none");
        String[] before = {"", "g", "g1", "g1,", "g1,0", "g1,0;", "g1,0;c", "g1,0;c0", "g1,0;c0,", "g1,0;c0,1",
            "g1,0;c0,1;", "g1,0;w", "g1,0;w0", "g1,0;w0;", "g1,0;e", "g1,0;ew", "g1,0;ew0", "g1,0;ew0;"};
        String[] allowed = {"g", "0123456789", "0123456789,", "0123456789", "0123456789;", "cwkdhme", "0123456789",
            "0123456789,", "0123456789", "0123456789;", "cwkdhme", "0123456789", "0123456789;", "wkdhme", SORTS,
            "0123456789", "0123456789;", "e"};
        for (int k = 0; k < before.length; k++) {
            for (int letter = 0; letter < 256; letter++) {
                if (allowed[k].indexOf(letter) < 0) {
                    faultDue(before[k] + (char) letter, CANNOT_STAND, before[k].length());
                    faultDue(before[k] + (char) letter + ";", CANNOT_STAND, before[k].length());
                }
            }
        }
    }

    private static void cutAtEveryByte() {
        Due.promise(7, "the end: how many bytes there are");
        String whole = "g30,9;c11,30;c0,1;w11;k12;ew60;em0;";
        for (int n = 0; n < whole.length(); n++) {
            boolean ends = n > 0 && whole.charAt(n - 1) == ';';
            if (!ends) {
                faultDue(whole.substring(0, n), CANNOT_STAND, n);
            } else {
                Due.is("no fault", Due.of(whole.substring(0, n)).fault(), 0);
            }
        }
        readDue(whole, 2);
        faultDue("", CANNOT_STAND, 0);
    }

    private static void figures() {
        Due.promise(7, "a run of three figures, at its first");
        String[] before = {"g", "g1,", "g1,0;c", "g1,0;c0,", "g1,0;w", "g1,0;ew"};
        for (String text : before) {
            faultDue(text + "000", CANNOT_STAND, text.length());
            faultDue(text + "001", CANNOT_STAND, text.length());
            faultDue(text + "010;", CANNOT_STAND, text.length());
            faultDue(text + "100", CANNOT_STAND, text.length());
            faultDue(text + "999,", CANNOT_STAND, text.length());
            faultDue(text + "0000", CANNOT_STAND, text.length());
            faultDue(text + "1234567890123", CANNOT_STAND, text.length());
        }
        faultDue("123", CANNOT_STAND, 0);
        faultDue("12", CANNOT_STAND, 0);
        faultDue("g1,0;123", CANNOT_STAND, 5);
        faultDue("g1,0;w0;123;", CANNOT_STAND, 8);
        faultDue("g1,0;e123;", CANNOT_STAND, 6);
        faultDue("g1,0;e12;", CANNOT_STAND, 6);
        Due.promise(7, "NUMBERS (figures, 2 at most)");
        CoalGrate x = Due.of("g07,03;c08,09;w04;ew06;");
        Due.is("cell 08", x.ember(0, 0), 8);
        Due.is("fire 09", x.ember(0, 1), 9);
        Due.is("cell 04", x.thing(0, 0), 4);
        Due.is("minute 06", x.eater(0, 1), 6);
        Due.is("wind 03, half of 9", x.heat(4), 4 + 3);
        Due.is("sink 07", x.fuel(), 63);
    }

    private static void grateNumbers() {
        Due.promise(7, "grate: g SINK , WIND ; (1 to 30; 0 to 9)");
        faultDue("g0,0;", NOT_AS_TOLD, 1);
        faultDue("g00,0;", NOT_AS_TOLD, 1);
        readDue("g1,0;", 0);
        readDue("g01,00;", 0);
        readDue("g30,9;", 0);
        readDue("g30,09;", 0);
        faultDue("g31,0;", NOT_AS_TOLD, 1);
        faultDue("g99,0;", NOT_AS_TOLD, 1);
        faultDue("g1,10;", NOT_AS_TOLD, 3);
        faultDue("g30,10;", NOT_AS_TOLD, 4);
        faultDue("g1,99;", NOT_AS_TOLD, 3);
        Due.is("wind 0", Due.of("g1,0;").heat(0), 0);
        Due.is("wind 9", Due.of("g1,9;").heat(0), 9);
        Due.is("sink 1", Due.of("g1,0;c0,2;").fuel(), 2);
        Due.is("sink 30", Due.of("g30,0;c0,2;").fuel(), 60);
        faultDue("g1,0;g1,0;", CANNOT_STAND, 5);
        faultDue("c0,1;", CANNOT_STAND, 0);
    }

    private static void coalNumbers() {
        Due.promise(7, "coal: c CELL , FIRE ; (0 to 11; 1 to 30)");
        for (int cell = 0; cell <= 11; cell++) {
            CoalGrate x = Due.of("g1,0;c" + cell + ",30;");
            Due.is("cell", x.ember(0, 0), cell);
        }
        for (int fire = 1; fire <= 30; fire++) {
            CoalGrate x = Due.of("g1,0;c11," + fire + ";");
            Due.is("fire", x.ember(0, 1), fire);
        }
        faultDue("g1,0;c12,1;", NOT_AS_TOLD, 6);
        faultDue("g1,0;c99,1;", NOT_AS_TOLD, 6);
        faultDue("g1,0;c0,0;", NOT_AS_TOLD, 8);
        faultDue("g1,0;c0,00;", NOT_AS_TOLD, 8);
        faultDue("g1,0;c0,31;", NOT_AS_TOLD, 8);
        faultDue("g1,0;c11,99;", NOT_AS_TOLD, 9);
        Due.promise(7, "COALS 0 .. 7, 8 at most, in one CELL as many as are told");
        CoalGrate x = Due.of(EIGHT_COALS);
        Due.is("8 in one cell", x.count(2), 8);
        Due.is("their heat", x.heat(0), 8);
        Due.is("coal 7", x.ember(7, 1), 1);
        Due.is("coal 8", x.ember(8, 1), BAD);
        readDue(EIGHT_COALS + "w0;ew0;", 1);
    }

    private static void thingNumbers() {
        Due.promise(7, "thing: SORT CELL ; (0 to 11: a CELL without a THING, or 12: aside)");
        for (int k = 0; k < 5; k++) {
            for (int cell = 0; cell <= 12; cell++) {
                CoalGrate x = Due.of("g1,0;" + SORTS.charAt(k) + cell + ";");
                Due.is("kind", x.kind(0), k + 1);
                Due.is("cell", x.thing(0, 0), cell);
            }
            faultDue("g1,0;" + SORTS.charAt(k) + "13;", NOT_AS_TOLD, 6);
            faultDue("g1,0;" + SORTS.charAt(k) + "99;", NOT_AS_TOLD, 6);
        }
        for (int cell = 0; cell <= 11; cell++) {
            faultDue("g1,0;w" + cell + ";w" + cell + ";", NOT_AS_TOLD, cell < 10 ? 9 : 10);
        }
        faultDue("g1,0;w3;h03;", NOT_AS_TOLD, 9);
        faultDue("g1,0;w03;h3;", NOT_AS_TOLD, 10);
        faultDue("g1,0;w3;h4;k3", NOT_AS_TOLD, 12);
        readDue("g1,0;w12;w12;w12;w12;w12;w12;", 6);
        readDue("g1,0;c3,1;w3;ew3;", 1);
        Due.promise(7, "THINGS 0 .. 5, 6 at most");
        readDue(SIX_THINGS, 6);
        readDue(SIX_THINGS + "ew0;", 6);
        Due.is("thing 5", Due.of(SIX_THINGS).kind(5), 1);
        Due.is("thing 6", Due.of(SIX_THINGS).kind(6), BAD);
    }

    private static void eaterNumbers() {
        Due.promise(7, "eater: e SORT MINUTE ; (SORT as of things; 0 to 60; EATERS 0 .. 3, 4 at most)");
        for (int k = 0; k < 5; k++) {
            CoalGrate x = Due.of("g1,0;e" + SORTS.charAt(k) + "0;e" + SORTS.charAt(k) + "60;");
            Due.is("kind", x.eater(0, 0), k + 1);
            Due.is("minute 0", x.eater(0, 1), 0);
            Due.is("minute 60", x.eater(1, 1), 60);
            faultDue("g1,0;e" + SORTS.charAt(k) + "61;", NOT_AS_TOLD, 7);
            faultDue("g1,0;e" + SORTS.charAt(k) + "99;", NOT_AS_TOLD, 7);
        }
        CoalGrate x = Due.of(FOUR_EATERS);
        Due.is("4 eaters", x.count(3), 4);
        Due.is("eater 3", x.eater(3, 0), 4);
        Due.is("eater 4", x.eater(4, 0), BAD);
    }

    private static void room() {
        Due.promise(7, "3 a coal, a thing, an eater more than there is room for (its letter)");
        faultDue(EIGHT_COALS + "c", NO_ROOM, 45);
        faultDue(EIGHT_COALS + "c0,1;", NO_ROOM, 45);
        faultDue(EIGHT_COALS + "c12,1;", NO_ROOM, 45);
        faultDue(EIGHT_COALS + "cc", NO_ROOM, 45);
        for (int k = 0; k < 5; k++) {
            faultDue(SIX_THINGS + SORTS.charAt(k), NO_ROOM, 24);
            faultDue(SIX_THINGS + SORTS.charAt(k) + "12;", NO_ROOM, 24);
            faultDue(SIX_THINGS + SORTS.charAt(k) + "0;", NO_ROOM, 24);
        }
        faultDue(FOUR_EATERS + "e", NO_ROOM, 21);
        faultDue(FOUR_EATERS + "ew0;", NO_ROOM, 21);
        faultDue(FOUR_EATERS + "ex", NO_ROOM, 21);
        Due.promise(7, "of one TOKEN the least");
        faultDue(EIGHT_COALS + "w0;c0,1;", CANNOT_STAND, 48);
        faultDue(EIGHT_COALS + "ew0;c", CANNOT_STAND, 49);
        faultDue(SIX_THINGS + "ew0;w12;", CANNOT_STAND, 28);
        faultDue(SIX_THINGS + "c0,1;", CANNOT_STAND, 24);
        faultDue(FOUR_EATERS + "w0;", CANNOT_STAND, 21);
        faultDue(FOUR_EATERS + "c0,1;", CANNOT_STAND, 21);
        faultDue(FOUR_EATERS + "g", CANNOT_STAND, 21);
        faultDue(EIGHT_COALS + "x", CANNOT_STAND, 45);
        faultDue("g000,0;", CANNOT_STAND, 1);
        faultDue("g1,0;c0;", CANNOT_STAND, 7);
        faultDue("g1,0;w0,", CANNOT_STAND, 7);
    }

    private static void firstToken() {
        Due.promise(7, "FAULTS, the first TOKEN that has one (its first byte)");
        faultDue("g31,10;", NOT_AS_TOLD, 1);
        faultDue("g0x", NOT_AS_TOLD, 1);
        faultDue("g31", NOT_AS_TOLD, 1);
        faultDue("g1,10x", NOT_AS_TOLD, 3);
        faultDue("g1;10;", CANNOT_STAND, 2);
        faultDue("g1,0;c12;", NOT_AS_TOLD, 6);
        faultDue("g1,0;c12x31", NOT_AS_TOLD, 6);
        faultDue("g1,0;c0,31", NOT_AS_TOLD, 8);
        faultDue("g1,0;w13", NOT_AS_TOLD, 6);
        faultDue("g1,0;w3;k3", NOT_AS_TOLD, 9);
        faultDue("g1,0;w3;k3x", NOT_AS_TOLD, 9);
        faultDue("g1,0;ew61", NOT_AS_TOLD, 7);
        faultDue("g1,0;ex61;", CANNOT_STAND, 6);
        faultDue("g1,0;c0,1;c11,0;w13;", NOT_AS_TOLD, 14);
        faultDue("g1,0;w0;k0;ew61;", NOT_AS_TOLD, 9);
        faultDue("g1,0;w0;k1;ew61;x", NOT_AS_TOLD, 13);
    }

    private static void orderOfParts() {
        Due.promise(7, "yard: grate { coal } { thing } { eater }");
        readDue("g1,0;c0,1;w0;ew0;", 1);
        readDue("g1,0;w0;ew0;", 1);
        readDue("g1,0;c0,1;ew0;", 0);
        readDue("g1,0;ew0;", 0);
        readDue("g1,0;c0,1;", 0);
        faultDue("g1,0;w0;c0,1;", CANNOT_STAND, 8);
        faultDue("g1,0;ew0;w0;", CANNOT_STAND, 9);
        faultDue("g1,0;ew0;c0,1;", CANNOT_STAND, 9);
        faultDue("g1,0;w0;g1,0;", CANNOT_STAND, 8);
    }

    /** A yard in which everything that can be told anew has changed. */
    private static CoalGrate busy() {
        CoalGrate x = Due.of("g2,9;c2,10;c0,30;h2;d0;h12;eh0;ed9;");
        x.turn(2);
        x.move(2, 5);
        Due.pass(x, 5);
        x.coal(11, 7);
        Due.is("served", x.serve(0, 0), 1);
        Due.is("burnt", x.thing(1, 5), 1);
        return x;
    }

    private static void newYard() {
        Due.promise(7, "A YARD that is read stands in place of the one before: MINUTE 0; no coal is FRESH; "
            + "all is cold, nobody was SERVED; no ACT can be undone");
        CoalGrate x = busy();
        Due.read(x, "g30,0;c11,5;c0,6;c3,7;k1;h0;w12;eh3;ed0;");
        Due.are("counts", new int[] {x.count(1), x.count(2), x.count(3), x.count(4), x.count(5), x.count(6), x.count(7)},
            3, 3, 2, 0, 0, 18, 0);
        for (int c = 0; c < 3; c++) {
            Due.is("coal " + c + " is not fresh", x.ember(c, 2), 0);
        }
        for (int t = 0; t < 3; t++) {
            Due.are("thing " + t, new int[] {x.thing(t, 0), x.thing(t, 1), x.thing(t, 2), x.thing(t, 3), x.thing(t, 4),
                x.thing(t, 5), x.thing(t, 6), x.kind(t)}, new int[] {1, 0, 12}[t], 0, 0, 0, 0, 0, 0, new int[] {2, 4, 1}[t]);
        }
        Due.are("eaters", new int[] {x.eater(0, 0), x.eater(0, 1), x.eater(0, 2), x.eater(1, 2)}, 4, 3, NONE, NONE);
        Due.is("wind 0", x.heat(8), 0);
        Due.is("no act", x.undo(), STATE);
        Due.is("a minute", x.minutes(1), 1);
        Due.is("that one alone", x.undo(), 0);
        Due.is("no act of the one before", x.undo(), STATE);
        Due.is("sink 30: 210 minutes of fire", x.fuel(), NONE);
    }

    /** Nothing of a full YARD, be it well or burnt, is seen in the one that is read next, or next but one. */
    private static void yardsInARow() {
        Due.promise(7, "A YARD that is read stands in place of the one before: of two before it, too");
        for (int between = 0; between <= 2; between++) {
            for (int burnt = 0; burnt <= 1; burnt++) {
                CoalGrate x = Due.of("g30,0;c0,10;c2,10;c5,10;c7,10;c8,10;c10,10;h0;h2;h5;h7;h8;h10;eh0;eh0;eh0;eh0;");
                x.minutes(4);
                for (int t = 0; t < 6 && burnt == 1; t++) {
                    x.turn(t);
                }
                x.minutes(1 + 7 * burnt);
                Due.is("all are through, or all are burnt", x.hand(1, 1 - burnt), 63);
                for (int k = 0; k < between; k++) {
                    Due.read(x, "g30,0;");
                }
                Due.read(x, "g30,6;c11,1;h0;h4;eh0;");
                twoCheesesByTheWind(x);
            }
        }
    }

    private static void twoCheesesByTheWind(CoalGrate x) {
        Due.are("counts", new int[] {x.count(1), x.count(2), x.count(3), x.count(6)}, 2, 1, 1, 1);
        for (int t = 0; t < 2; t++) {
            for (int what = 1; what <= 6; what++) {
                Due.is("cold: thing " + t + ", " + what, x.thing(t, what), 0);
            }
        }
        Due.is("no heat of the old coals", x.heat(5) + x.heat(10), 0);
        Due.is("none is burnt", x.hand(1, 0), 0);
        Due.is("none is through", x.hand(1, 1), 0);
        x.minutes(5);
        Due.is("none is burnt", x.hand(1, 0), 0);
        Due.is("both are through", x.hand(1, 1), 3);
        Due.is("one eater", x.servable(0, -1), 1);
        x.row(0, 0, 1);
        Due.is("judged", x.judged(0, 0, 0), 3);
    }

    private static void sameTextAgain() {
        Due.promise(7, "the same text again is a new YARD, too");
        CoalGrate x = new CoalGrate();
        for (int round = 0; round < 4; round++) {
            Due.read(x, "g1,0;c0,10;h0;w1;eh0;");
            Due.is("minute", x.count(4), 0);
            Due.is("cold", x.thing(0, 2) + x.thing(0, 1) + x.thing(1, 2), 0);
            Due.is("fire", x.count(6), 10);
            Due.is("hand", x.hand(5, 2), x.hand(5, 2));
            Due.is("minutes", x.minutes(4), 4);
            Due.is("skin", x.thing(0, 2), 10 + 9 + 8 + 7);
            Due.is("minutes", x.minutes(1), 5);
            Due.is("served", x.serve(0, 0), 1);
        }
    }

    private static void faultLeavesAll() {
        Due.promise(7, "-1000100 less the place of a FAULT: all stays");
        String[] texts = {"", "g", "g1,9;w0;h0;", "g30,9;c11,30;k11;ek60;x", EIGHT_COALS + "c", SIX_THINGS + "w"};
        for (String text : texts) {
            CoalGrate x = busy();
            CoalGrate y = busy();
            x.row(0, 0, 3);
            x.image(0);
            x.ask(1, 0);
            y.ask(1, 0);
            Due.tell(x, text);
            Due.is("a fault of '" + text + "'", Math.max(-1000100 + 1, x.yard()), -1000099);
            for (int what = 1; what <= 8; what++) {
                Due.is("count " + what, x.count(what), y.count(what));
            }
            for (int t = 0; t < 3; t++) {
                for (int what = 0; what <= 6; what++) {
                    Due.is("thing " + t + ", " + what, x.thing(t, what), y.thing(t, what));
                }
            }
            for (int cell = 0; cell < 12; cell++) {
                Due.is("heat", x.heatAhead(cell, 3), y.heatAhead(cell, 3));
            }
            Due.is("row", x.count(0), 1);
            Due.is("trace", x.trace(0), y.trace(0));
            Due.is("acts", x.undo(), y.undo());
            Due.is("the eater", x.eater(0, 2), NONE);
            Due.is("image", x.restore(0), 1);
            Due.is("served", x.count(5), 1);
        }
    }

    private static void faults() {
        Due.promise(8, "The number of the latest FAULT; 0 before one");
        CoalGrate x = new CoalGrate();
        Due.is("before one", x.fault(), 0);
        Due.read(x, "g1,0;");
        Due.is("a text without", x.fault(), 0);
        Due.tell(x, EIGHT_COALS + "c");
        x.yard();
        Due.is("no room", x.fault(), 3);
        Due.is("told twice", x.fault(), 3);
        Due.read(x, "g1,0;");
        Due.is("the latest stays", x.fault(), 3);
        Due.tell(x, "g0,0;");
        x.yard();
        Due.is("a number", x.fault(), 2);
        x.yard();
        Due.is("the end", x.fault(), 1);
        Due.tell(x, "g31,0;");
        Due.is("not read yet", x.fault(), 1);
        x.yard();
        Due.is("a number", x.fault(), 2);
        Due.is("it is no finding", x.status(), 0);
    }

    public static void main(String[] args) {
        feeds();
        tapeEmptied();
        everyByteAtEveryToken();
        cutAtEveryByte();
        figures();
        grateNumbers();
        coalNumbers();
        thingNumbers();
        eaterNumbers();
        room();
        firstToken();
        orderOfParts();
        newYard();
        yardsInARow();
        sameTextAgain();
        faultLeavesAll();
        faults();
        Due.end(6, 8);
    }
}
