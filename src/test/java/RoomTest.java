import java.lang.management.ManagementFactory;
import java.lang.reflect.Array;
import java.lang.reflect.Field;
import java.lang.reflect.Modifier;
import java.util.ArrayDeque;
import java.util.Collections;
import java.util.Deque;
import java.util.IdentityHashMap;
import java.util.Set;

/** All calls of a run share one room: no call makes an object, and what one object holds is small. */
public final class RoomTest {
    private static final int ROUNDS = 200, SLACK_BYTES = 4096;
    private static final int MOST_OBJECTS = 100, MOST_PARTS = 5000;
    private static final String YARD = "g7,1;c5,8;c4,5;w5;h6;k4;d12;m1;w9;ew1;eh3;ed0;em60;";

    private static int wrong = 0;
    private static int sum = 0;

    private static void hold(boolean holds, String what) {
        if (!holds) {
            wrong++;
            System.out.println("does not hold: " + what);
        }
    }

    private static void doRows(CoalGrate x) {
        sum += x.row(0, 0, 40) + x.row(1, 0, 4) + x.set(0, 1, -1) + x.copy(0, 0, 1, 0, 4) + x.drop(1);
        sum += x.row(9, 0, 0) + x.set(7, 0, 0) + x.copy(0, 0, 7, 0, 1) + x.drop(1) + x.status();
    }

    private static void doYards(CoalGrate x, String text) {
        for (int i = 0; i < text.length(); i++) {
            sum += x.feed(text.charAt(i));
        }
        sum += x.yard() + x.fault();
    }

    private static void doActs(CoalGrate x) {
        sum += x.minutes(24) + x.turn(0) + x.move(3, 0) + x.coal(2, 9) + x.water() + x.undo() + x.undo();
        for (int thing = 0; thing < 6; thing++) {
            for (int eater = 0; eater < 4; eater++) {
                sum += x.serve(thing, eater) + x.eater(eater, 2);
            }
            sum += x.thing(thing, 0) + x.ember(thing, 1) + x.heat(thing);
        }
        sum += x.minutes(401) + x.turn(9) + x.move(0, 6) + x.coal(0, 31) + x.thing(6, 0) + x.heat(12);
    }

    private static void foretell(CoalGrate x) {
        for (int thing = 0; thing <= 6; thing++) {
            sum += x.ahead(thing, 60, 0) + x.heatAhead(thing, 60) + x.ready(thing) + x.where(thing);
            sum += x.inTime(thing, 60) + x.flips(thing, 12, 1) + x.start(thing, 7, 60) + x.fuelFor(thing, 60);
        }
        sum += x.servable(60, -1) + x.servable(9, 3) + x.hand(60, 2) + x.judged(0, 0, 40) + x.judged(0, 1, 40) + x.fuel();
        sum += x.image(0) + x.restore(0) + x.restore(2);
    }

    private static void ask(CoalGrate x) {
        for (int thing = 0; thing <= 6; thing++) {
            sum += x.kind(thing) + x.as(thing, 1) + x.ask(thing, 0) + x.ask(thing, 1) + x.trace(0);
        }
        for (int what = 0; what <= 9; what++) {
            sum += x.count(what);
        }
    }

    private static void round(CoalGrate x) {
        doRows(x);
        doYards(x, YARD);
        doYards(x, "g7,1;w5;w5;");
        foretell(x);
        doActs(x);
        foretell(x);
        ask(x);
    }

    private static void noCallMakesAnObject() {
        CoalGrate x = new CoalGrate();
        com.sun.management.ThreadMXBean bean = (com.sun.management.ThreadMXBean) ManagementFactory.getThreadMXBean();
        long me = Thread.currentThread().getId();
        round(x);
        bean.getThreadAllocatedBytes(me);
        long before = bean.getThreadAllocatedBytes(me);
        for (int i = 0; i < ROUNDS; i++) {
            round(x);
        }
        long made = bean.getThreadAllocatedBytes(me) - before;
        hold(made <= SLACK_BYTES, "calls make no objects (" + made + " bytes in " + ROUNDS + " rounds)");
    }

    /** Objects and arrays that one object holds, itself with them, and their fields and elements. */
    private static void oneObjectIsSmall() throws IllegalAccessException {
        Set<Object> seen = Collections.newSetFromMap(new IdentityHashMap<>());
        Deque<Object> open = new ArrayDeque<>();
        open.add(new CoalGrate());
        int parts = 0;
        while (!open.isEmpty()) {
            Object o = open.remove();
            if (seen.add(o)) {
                parts += o.getClass().isArray() ? elements(o, open) : fields(o, open);
            }
        }
        hold(seen.size() <= MOST_OBJECTS, "one object holds few others: " + seen.size());
        hold(parts <= MOST_PARTS, "one object holds few numbers: " + parts);
        System.out.println("one object holds " + seen.size() + " objects and arrays, " + parts + " fields and elements");
    }

    private static int elements(Object array, Deque<Object> open) {
        boolean numbers = array.getClass().getComponentType().isPrimitive();
        for (int i = 0; !numbers && i < Array.getLength(array); i++) {
            addKnown(Array.get(array, i), open);
        }
        return Array.getLength(array);
    }

    private static int fields(Object o, Deque<Object> open) throws IllegalAccessException {
        int own = 0;
        for (Class<?> c = o.getClass(); c != Object.class; c = c.getSuperclass()) {
            for (Field f : c.getDeclaredFields()) {
                if (!Modifier.isStatic(f.getModifiers())) {
                    own++;
                    f.setAccessible(true);
                    addKnown(f.getType().isPrimitive() ? null : f.get(o), open);
                }
            }
        }
        return own;
    }

    private static void addKnown(Object o, Deque<Object> open) {
        if (o != null) {
            open.add(o);
        }
    }

    public static void main(String[] args) throws IllegalAccessException {
        noCallMakesAnObject();
        oneObjectIsSmall();
        System.out.println(wrong == 0 ? "the room is kept (" + sum + ")" : wrong + " things do not hold");
        if (wrong != 0) {
            System.exit(1);
        }
    }
}
