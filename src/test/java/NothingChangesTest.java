import java.lang.reflect.Method;
import java.util.ArrayList;
import java.util.Arrays;
import java.util.List;

/**
 * Terms, of every call: "What is refused, or found, changes nothing but status()", and of what is FORETOLD or
 * told: "nothing changes". Two objects are brought to the same state; one makes the call, the other does not;
 * all that can be seen of them then is the same. An object has 512 calls: each part of what can be seen is
 * looked at on objects of its own.
 */
public final class NothingChangesTest {
    private static final int LOW = Due.LOW, HIGH = Due.HIGH;
    /** The calls in the order of their promises: the first is promise 2. */
    private static final String[] CALLS = {"row", "set", "copy", "drop", "feed", "yard", "fault", "minutes", "turn", "move",
        "coal", "water", "serve", "undo", "thing", "eater", "ember", "heat", "ahead", "heatAhead", "ready", "where", "inTime",
        "flips", "start", "fuelFor", "servable", "hand", "judged", "fuel", "image", "restore", "kind", "as", "ask", "trace",
        "count", "status"};
    /** Whose answers are only told, whatever they are. */
    private static final List<String> TELLING = Arrays.asList("fault", "thing", "eater", "ember", "heat", "ahead",
        "heatAhead", "ready", "where", "inTime", "flips", "start", "fuelFor", "servable", "hand", "judged", "fuel", "kind",
        "as", "trace", "count", "status");
    private static final int[] FEW = {-2, -1, 0, 1, 2, 3, 5, 6, 7, 8, 12, 13, 24, 25, 30, 31, 40, 41, 60, 61, 255, 256, LOW, HIGH};
    private static final int[] FEWER = {-1, 0, 1, 3, 8, 12, 41, 61, HIGH};
    private static final int[] FEWEST = {-1, 0, 2, 7, 8, 41};
    private static final int STATES = 6, PARTS = 4;

    private static CoalGrate inState(int state) {
        CoalGrate x = new CoalGrate();
        x.row(0, 0, 3);
        x.row(1, 2, 40);
        x.row(3, 0, 0);
        x.set(0, 1, -1);
        x.set(1, 5, 9);
        x.set(1, 6, -1);
        switch (state) {
            case 0:
                x.drop(7);
                break;
            case 1:
                Due.read(x, "g2,3;c0,10;c5,7;h0;w5;d4;m12;eh0;ew0;em9;");
                x.image(1);
                x.minutes(5);
                x.serve(0, 0);
                x.turn(1);
                x.coal(9, 9);
                x.ask(1, 0);
                x.as(1, 5);
                x.feed('g');
                break;
            case 2:
                Due.read(x, "g30,0;c0,10;c0,1;c0,1;c0,1;c0,1;c0,1;c0,1;h1;k0;");
                x.coal(4, 20);
                x.move(1, 12);
                x.image(0);
                x.image(1);
                Due.pass(x, 30);
                break;
            case 3:
                Due.read(x, "g30,1;h12;w1;");
                Due.pass(x, 400);
                x.copy(0, 0, 1, 0, 1);
                break;
            case 4:
                Due.read(x, "g9,9;");
                for (int k = 0; k < 160; k++) {
                    x.feed(k);
                }
                x.set(0, 9, 9);
                break;
            default:
                Due.read(x, "g30,0;c0,10;c11,10;h0;h11;h12;w12;k5;d6;eh0;eh0;ew0;ek60;");
                x.yard();
                x.minutes(4);
                x.image(0);
                x.serve(1, 1);
                x.undo();
                x.ask(4, 1);
                break;
        }
        return x;
    }

    private static void gatherNow(CoalGrate x, List<Integer> seen) {
        for (int what = 0; what <= 8; what++) {
            seen.add(x.count(what));
        }
        for (int t = 0; t < 6; t++) {
            for (int what = 0; what <= 6; what++) {
                seen.add(x.thing(t, what));
            }
            seen.add(x.kind(t));
        }
        for (int k = 0; k < 8; k++) {
            for (int what = 0; what <= 2; what++) {
                seen.add(x.eater(k, what));
                seen.add(x.ember(k, what));
            }
        }
        for (int cell = 0; cell < 12; cell++) {
            seen.add(x.heat(cell));
            seen.add(x.heatAhead(cell, 9));
        }
        for (int i = 0; i < 7; i++) {
            seen.add(x.trace(i));
        }
        seen.add(x.fuel());
        seen.add(x.fault());
    }

    /** Rows are seen through copies onto a told yard: items from -1 to 3 are taken, others are not. */
    private static void gatherRows(CoalGrate x, List<Integer> seen) {
        Due.read(x, "g1,0;h12;h12;h12;h12;");
        for (int row = 0; row < 4; row++) {
            for (int i = 0; i < 40; i++) {
                seen.add(x.judged(row, i, 1));
            }
        }
        for (int row = 0; row < 8; row++) {
            seen.add(x.copy(row, 0, 1, 0, 0));
            seen.add(x.set(row, 0, 300));
            seen.add(x.drop(row));
        }
    }

    private static List<Integer> tale(CoalGrate x, int part) {
        List<Integer> seen = new ArrayList<>();
        if (part == 0) {
            gatherNow(x, seen);
        } else if (part == 1) {
            for (int k = 0; k < 25; k++) {
                seen.add(x.undo());
                seen.add(x.count(4));
                seen.add(x.count(6));
                seen.add(x.thing(0, 0));
                seen.add(x.thing(1, 2));
                seen.add(x.thing(1, 4));
            }
            gatherNow(x, seen);
        } else if (part == 2) {
            seen.add(x.restore(0));
            gatherNow(x, seen);
            seen.add(x.restore(1));
            gatherNow(x, seen);
        } else {
            seen.add(x.yard());
            seen.add(x.fault());
            gatherRows(x, seen);
        }
        return seen;
    }

    private static boolean isRefusal(int answer) {
        return answer <= Due.BAD && answer >= Due.FULL || answer <= Due.NULL && answer >= Due.STORE;
    }

    private static int call(CoalGrate x, Method method, Integer[] arguments) {
        try {
            return (Integer) method.invoke(x, (Object[]) arguments);
        } catch (ReflectiveOperationException e) {
            Due.is(method.getName() + Arrays.toString(arguments) + " throws " + e.getCause(), 1, 0);
            return Due.NONE;
        }
    }

    private static void tryCall(Method method, Integer[] arguments, int state, List<List<Integer>> untouched) {
        CoalGrate probe = inState(state);
        int before = probe.status();
        int answer = call(probe, method, arguments);
        boolean told = TELLING.contains(method.getName());
        if (!told && !isRefusal(answer)) {
            return;
        }
        String what = method.getName() + Arrays.toString(arguments) + " in state " + state;
        boolean ofRows = Arrays.asList("row", "set", "copy", "drop", "judged", "as").contains(method.getName());
        boolean refused = answer <= Due.BAD && answer >= Due.FULL;
        int finding = isRefusal(answer) ? -1000010 - answer : 0;
        Due.is("status behind " + what, probe.status(), ofRows && !refused ? finding : before);
        for (int part = 0; part < PARTS; part++) {
            CoalGrate x = inState(state);
            call(x, method, arguments);
            boolean same = tale(x, part).equals(untouched.get(part));
            Due.is("what is seen, part " + part + ", behind " + what, same ? 1 : 0, 1);
        }
    }

    private static void tryAll(Method method, int state, List<List<Integer>> untouched) {
        int n = method.getParameterCount();
        int[] values = n <= 2 ? FEW : n == 3 ? FEWER : FEWEST;
        int ways = 1;
        for (int k = 0; k < n; k++) {
            ways *= values.length;
        }
        for (int way = 0; way < ways; way++) {
            Integer[] arguments = new Integer[n];
            int rest = way;
            for (int k = 0; k < n; k++) {
                arguments[k] = values[rest % values.length];
                rest /= values.length;
            }
            tryCall(method, arguments, state, untouched);
        }
    }

    private static Method find(String name) {
        for (Method method : CoalGrate.class.getDeclaredMethods()) {
            if (method.getName().equals(name)) {
                return method;
            }
        }
        throw new IllegalStateException("no method " + name);
    }

    public static void main(String[] args) {
        for (int state = 0; state < STATES; state++) {
            List<List<Integer>> untouched = new ArrayList<>();
            for (int part = 0; part < PARTS; part++) {
                untouched.add(tale(inState(state), part));
            }
            for (int k = 0; k < CALLS.length; k++) {
                Due.promise(k + 2, CALLS[k] + ": what is refused, found or only told changes nothing but status()");
                tryAll(find(CALLS[k]), state, untouched);
            }
        }
        Due.end(2, 39);
    }
}
