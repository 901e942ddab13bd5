import com.sun.management.ThreadMXBean;
import java.lang.management.ManagementFactory;
import java.lang.reflect.Array;
import java.lang.reflect.Field;
import java.lang.reflect.Modifier;
import java.util.ArrayList;
import java.util.IdentityHashMap;
import java.util.List;
import java.util.Map;

/** An object is small, and its calls make nothing new but exceptions: all calls of a run live in one room. */
public final class RoomTest extends ByHand {
    private static final ThreadMXBean THREADS = (ThreadMXBean) ManagementFactory.getThreadMXBean();
    private static final int MOST_OBJECTS = 250;
    private static final int MOST_ELEMENTS = 2500;
    private static final int CALLS = 500;

    private RoomTest() {
    }

    /** A call whose answer is put where no object is needed for it. */
    interface Act {
        long on(HeatNetwork x, int time);
    }

    /** All objects and arrays that belong to an object, each once. */
    private static List<Object> belongingTo(HeatNetwork x) throws IllegalAccessException {
        List<Object> all = new ArrayList<>();
        Map<Object, Object> seen = new IdentityHashMap<>();
        all.add(x);
        seen.put(x, x);
        for (int i = 0; i < all.size(); i++) {
            for (Object part : partsOf(all.get(i))) {
                if (part != null && seen.put(part, part) == null) {
                    all.add(part);
                }
            }
        }
        return all;
    }

    private static List<Object> partsOf(Object owner) throws IllegalAccessException {
        List<Object> parts = new ArrayList<>();
        if (owner instanceof Object[] array) {
            parts.addAll(List.of(array));
        } else if (!owner.getClass().isArray()) {
            for (Field field : fieldsOf(owner)) {
                if (!field.getType().isPrimitive()) {
                    parts.add(field.get(owner));
                }
            }
        }
        return parts;
    }

    private static List<Field> fieldsOf(Object owner) {
        List<Field> fields = new ArrayList<>();
        for (Field field : owner.getClass().getDeclaredFields()) {
            if (!Modifier.isStatic(field.getModifiers())) {
                field.setAccessible(true);
                fields.add(field);
            }
        }
        return fields;
    }

    private static void size() throws IllegalAccessException {
        HeatNetwork x = ring();
        x.save();
        int before = belongingTo(x).size();
        Answers.of(x);
        runText(x, "s3:1,200,1;x3;h1;");
        x.undo();
        List<Object> all = belongingTo(x);
        int elements = 0;
        for (Object part : all) {
            elements += part.getClass().isArray() ? Array.getLength(part) : fieldsOf(part).size();
        }
        due("objects and arrays: " + all.size(), all.size() <= MOST_OBJECTS, true);
        due("fields and elements: " + elements, elements <= MOST_ELEMENTS, true);
        due("calls add none", all.size(), before);
    }

    /** The first time is not counted: the machine may make what it needs for the call then. */
    private static void makesNothing(String name, Act act) {
        HeatNetwork first = ring();
        HeatNetwork x = ring();
        long sum = 0;
        for (int i = 0; i < CALLS; i++) {
            sum += act.on(first, i);
        }
        long thread = Thread.currentThread().getId();
        long before = THREADS.getThreadAllocatedBytes(thread);
        for (int i = 0; i < CALLS; i++) {
            sum -= act.on(x, i);
        }
        long made = THREADS.getThreadAllocatedBytes(thread) - before;
        due(name + " made " + made + " bytes", made < CALLS, true);
        due(name + " answers alike", sum, 0);
    }

    private static long describe(HeatNetwork x, int time) {
        String text = time % 2 == 0 ? "p1-3:1,1;s3:1,200,1;h1;" : "x3;t2=-15;h24;";
        for (int i = 0; i < text.length(); i++) {
            x.append(text.charAt(i));
        }
        if (time % 2 == 0 && x.count(0) > 3) {
            x.removePipe(3);
        }
        return x.run();
    }

    private static long tell(HeatNetwork x, int time) {
        long sum = x.rounds() + x.neededHead() + x.imbalance() + x.suspect() + x.count(time % 6) + x.account(time % 8);
        for (int node = 0; node < 3; node++) {
            sum += x.temperature(node, time % 2 == 0) + x.rounding(node) + x.head(node) + x.distance(node);
            sum += x.part(node) + (x.isConnected(node) ? 1 : 0) + x.loop(node);
            sum += x.flow(node) + x.direction(node) + x.loss(node) + x.pipe(node, time % 5);
        }
        sum += x.station(1, time % 8) + x.meter(2, time % 4) + x.setting(time % 7) + x.faultPosition();
        return sum + (long) (x.efficiency() * 1000.0) + (long) (x.returnDegrees() * 10.0f);
    }

    private static void calls() {
        makesNothing("what is told", RoomTest::tell);
        makesNothing("bestReturn", (x, time) -> x.setSetting(5, time) + x.bestReturn(1 + time % 2));
        makesNothing("trial", (x, time) -> x.trial(1 + time % 2, 200 + time % 401));
        makesNothing("a new state", (x, time) -> x.setReturn(1, 200 + time % 401) + x.rounds());
        makesNothing("hours", (x, time) -> x.hours(1 + time % 24) + x.setMeter(2, time % 3, time));
        makesNothing("pipes", (x, time) -> x.addPipe(1, 3, 1, 1) + x.removePipe(3));
        makesNothing("stations", (x, time) -> x.addStation(3, 1, 200, 1) + x.removeStation(3));
        makesNothing("snapshots", (x, time) -> x.save() + x.setSetting(0, 900) + x.undo() + x.restore());
        makesNothing("texts", RoomTest::describe);
    }

    public static void main(String[] arguments) throws IllegalAccessException {
        size();
        calls();
        Check.end("RoomTest");
    }
}
