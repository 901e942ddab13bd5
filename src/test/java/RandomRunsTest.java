import java.lang.reflect.InvocationTargetException;
import java.lang.reflect.Method;
import java.util.Arrays;
import java.util.HashMap;
import java.util.Map;
import java.util.Random;

/** Runs of calls on HeatNetwork and on the reference side by side; every answer and every exception must agree. */
public final class RandomRunsTest {
    private static final int[] EXTREMES = {Integer.MIN_VALUE, Integer.MAX_VALUE, -1, 0, 10, 11, 1000, -300, 65536};
    private static final String[] CHANGES = {"addPipe", "addPipe", "addPipe", "addStation", "addStation", "addStation",
        "setSetting", "setSetting", "removePipe", "removeStation", "setReturn", "setMeter", "hours", "hours", "text",
        "text", "undo", "save", "restore", "append", "trial", "bestReturn", "refusal", "run"};

    private static final int COLD_RUNS = 30;

    private final Random random;
    private final Map<String, Method> mine = new HashMap<>();
    private final Map<String, Method> theirs = new HashMap<>();
    private HeatNetwork network;
    private ReferenceNetwork reference;
    private String run;
    /** How far the runs reached: a generator that never makes loops would test little. */
    private final Map<String, Integer> seen = new HashMap<>();

    private RandomRunsTest(long seed) {
        random = new Random(seed);
        for (Method m : HeatNetwork.class.getDeclaredMethods()) {
            mine.put(m.getName(), m);
        }
        for (Method m : ReferenceNetwork.class.getDeclaredMethods()) {
            if (java.lang.reflect.Modifier.isPublic(m.getModifiers())) {
                theirs.put(m.getName(), m);
            }
        }
    }

    private static Object answer(Method method, Object on, Object... arguments) {
        try {
            return method.invoke(on, arguments);
        } catch (InvocationTargetException e) {
            return e.getCause().getClass().getSimpleName();
        } catch (IllegalAccessException e) {
            throw new IllegalStateException(e);
        }
    }

    private Object both(String name, Object... arguments) {
        Object want = answer(theirs.get(name), reference, arguments);
        Object got = answer(mine.get(name), network, arguments);
        Check.due(run + " " + name + Arrays.toString(arguments), got, want);
        return want;
    }

    private int from(int least, int most) {
        return least + random.nextInt(most - least + 1);
    }

    /** Mostly within the range, now and then at its edges, just outside of it, or far off. */
    private int number(int least, int most) {
        int kind = random.nextInt(60);
        if (kind == 0) {
            return EXTREMES[random.nextInt(EXTREMES.length)];
        }
        if (kind == 1) {
            return random.nextBoolean() ? least - 1 : most + 1;
        }
        if (kind < 6) {
            return random.nextBoolean() ? least : most;
        }
        return from(least, most);
    }

    private int settingValue(int setting) {
        switch (setting) {
            case 0:
                return number(600, 1200);
            case 1:
                return number(0, 200);
            case 2:
                return number(-300, 300);
            case 3:
                return random.nextBoolean() ? number(0, 99) : number(0, 12);
            case 4:
                return random.nextInt(3) == 0 ? number(1, 200000) : number(1, 999999999);
            case 5:
                return number(0, 999);
            default:
                return number(0, 99);
        }
    }

    private int greatestFlow() {
        return random.nextInt(3) == 0 ? number(1, 20) : number(1, 999);
    }

    private void change(String name) {
        switch (name) {
            case "addPipe":
                both(name, number(0, 9), number(0, 9), number(1, 99), number(1, 9));
                break;
            case "addStation":
                both(name, number(1, 9), number(1, 99), number(200, 600), greatestFlow());
                break;
            case "setSetting":
                int setting = number(0, 6);
                both(name, setting, settingValue(setting));
                break;
            case "removePipe":
                both(name, number(0, 9));
                break;
            case "removeStation":
            case "bestReturn":
                both(name, number(1, 9));
                break;
            case "setReturn":
            case "trial":
                both(name, number(1, 9), number(200, 600));
                break;
            case "setMeter":
                both(name, number(1, 9), number(0, 2), number(0, 2000));
                break;
            case "hours":
                both(name, number(1, 24));
                break;
            case "append":
                both(name, number(32, 126));
                break;
            case "text":
                runText();
                break;
            default:
                both(name);
                break;
        }
    }

    private String definition() {
        switch (random.nextInt(6)) {
            case 0:
            case 1:
                return "p" + from(0, 9) + "-" + from(0, 9) + ":" + from(1, random.nextInt(9) == 0 ? 999 : 99) + ","
                        + (random.nextInt(9) == 0 ? "0" : "") + from(random.nextInt(9) == 0 ? 0 : 1, 9);
            case 2:
                return "s" + from(random.nextInt(9) == 0 ? 0 : 1, 9) + ":" + from(1, 99) + "," + from(200, 600) + ","
                        + from(1, 999);
            case 3:
                return "x" + from(0, 9);
            case 4:
                int setting = from(0, random.nextInt(5) == 0 ? 9 : 6);
                int value = setting == 2 ? from(-300, 300) : setting == 0 ? from(600, 999) : from(0, 99);
                return "t" + setting + "=" + value;
            default:
                return "h" + (random.nextInt(9) == 0 ? from(0, 999) : from(1, 24));
        }
    }

    private void runText() {
        StringBuilder text = new StringBuilder();
        int definitions = random.nextInt(5) == 0 ? from(0, 9) : from(1, 3);
        for (int i = 0; i < definitions; i++) {
            text.append(definition()).append(";");
        }
        if (random.nextInt(4) == 0 && text.length() > 0) {
            int at = random.nextInt(text.length());
            String signs = "pstxh0123456789-:,;= ~";
            switch (random.nextInt(4)) {
                case 0:
                    text.deleteCharAt(at);
                    break;
                case 1:
                    text.setLength(at);
                    break;
                case 2:
                    text.setCharAt(at, signs.charAt(random.nextInt(signs.length())));
                    break;
                default:
                    text.insert(at, signs.charAt(random.nextInt(signs.length())));
                    break;
            }
        }
        for (int i = 0; i < text.length(); i++) {
            both("append", (int) text.charAt(i));
        }
        both("run");
        both("faultPosition");
    }

    private void look() {
        for (String name : new String[] {"faultPosition", "refusal", "neededHead", "imbalance", "rounds", "suspect",
            "efficiency", "returnDegrees"}) {
            both(name);
        }
        for (int i = -1; i <= 10; i++) {
            for (String name : new String[] {"setting", "flow", "direction", "loss", "rounding", "head", "loop",
                "distance", "part", "isConnected", "account", "count"}) {
                both(name, i);
            }
            both("temperature", i, true);
            both("temperature", i, false);
            for (int what = -1; what <= 8; what++) {
                both("pipe", i, what);
                both("station", i, what);
                both("meter", i, what);
            }
        }
        note();
    }

    private void note() {
        ReferenceNetwork.Found f = reference.found();
        see("states", true);
        see("loops", !f.loop.isEmpty());
        see("loops without the plant", !f.loop.isEmpty() && f.loop.get(0) != 0);
        see("loops with flow", f.imbalance > 0);
        see("12 rounds", f.rounds == 12);
        boolean isBelow = false;
        for (int n : f.data.stations.keySet()) {
            isBelow |= f.heat(n) < 0;
        }
        see("station heat below 0", isBelow);
        see("all connected", reference.count(2) == 10);
        see("head too great", f.needed() > f.data.settings[4]);
        long lost = reference.account(1) + reference.account(2) + reference.account(3);
        Check.due(run + " the heat that is made", reference.account(0), lost);
    }

    private void see(String what, boolean isSo) {
        seen.merge(what, isSo ? 1 : 0, Integer::sum);
    }

    /** Hangs most nodes together at once, so that flows and loops are common. */
    private void build() {
        for (int node = 1; node < 10; node++) {
            if (random.nextInt(10) > 0) {
                int near = random.nextInt(node);
                boolean isTurned = random.nextBoolean();
                both("addPipe", isTurned ? node : near, isTurned ? near : node, from(1, 99), from(1, 9));
            }
            if (random.nextInt(3) > 0) {
                both("addStation", node, from(1, 99), from(200, 600), greatestFlow());
            }
        }
        for (int i = 0; i < 4; i++) {
            both("addPipe", from(0, 9), from(0, 9), from(1, 99), from(1, 9));
        }
    }

    private void go(int number) {
        network = new HeatNetwork();
        reference = new ReferenceNetwork();
        run = "run " + number;
        look();
        if (random.nextInt(4) > 0) {
            build();
            look();
        }
        for (int i = 0; i < 25 && Check.wrongSoFar() < 20; i++) {
            change(CHANGES[random.nextInt(CHANGES.length)]);
            if (random.nextInt(3) > 0) {
                look();
            }
        }
    }

    /**
     * A station whose flow swings ever wider, until in the twelfth round so little comes that it arrives colder than
     * what the station gives back; random networks hardly ever have one. Another station behind it draws in the first
     * round alone, as otherwise the first flow would be the least of all. Answers whether such a network was found.
     */
    private boolean buildCold() {
        for (int i = 0; i < 1000000; i++) {
            int supply = from(900, 1200);
            int loss = from(50, 99);
            int outdoor = from(-300, 199);
            int length = from(1, 99);
            int size = from(1, 99);
            int back = from(500, 600);
            int farSize = from(1, 99);
            int first = drawn(farSize * (200 - outdoor), supply - 600);
            if (arrivesLast(supply, length * loss, size * (200 - outdoor), back, first) < back
                    && cooled(supply, 99 * loss, first) < 650) {
                both("setSetting", 0, supply);
                both("setSetting", 2, outdoor);
                both("setSetting", 3, loss);
                both("addPipe", 4, 0, length, from(1, 9));
                both("addPipe", 4, 2, 99, from(1, 9));
                both("addStation", 4, size, back, 999);
                both("addStation", 2, farSize, 600, 999);
                return true;
            }
        }
        return false;
    }

    private static int drawn(int wanted, int difference) {
        return difference < 50 ? 0 : Math.min(999, (wanted + difference - 1) / difference);
    }

    private static int cooled(int entering, int lost, int flow) {
        return flow == 0 ? 100 : 100 + (entering - 100) * 100 * flow / (100 * flow + lost);
    }

    /** The temperature at which the water of the twelfth round arrives. */
    private static int arrivesLast(int supply, int lost, int wanted, int back, int more) {
        int arrives = cooled(supply, lost, drawn(wanted, supply - back) + more);
        for (int round = 2; round <= 12; round++) {
            int flow = drawn(wanted, arrives - back);
            if (flow == 0) {
                return supply;
            }
            arrives = cooled(supply, lost, flow);
        }
        return arrives;
    }

    /** What is metered and paid where the heat of a station is below 0. */
    private void goCold(int number) {
        network = new HeatNetwork();
        reference = new ReferenceNetwork();
        run = "cold run " + number;
        Check.due(run + " has a network", buildCold(), true);
        String[] changes = {"setMeter", "price", "rate", "hours", "hours", "bestReturn", "trial", "undo"};
        for (int i = 0; i < 10; i++) {
            switch (changes[random.nextInt(changes.length)]) {
                case "setMeter" -> both("setMeter", 4, from(0, 2), from(0, 2000));
                case "price" -> both("setSetting", 5, from(0, 999));
                case "rate" -> both("setSetting", 6, from(0, 99));
                case "hours" -> both("hours", from(1, 24));
                case "bestReturn" -> both("bestReturn", 4);
                case "trial" -> both("trial", 4, from(200, 600));
                default -> both("undo");
            }
            look();
        }
    }

    public static void main(String[] arguments) {
        long seed = arguments.length > 0 ? Long.parseLong(arguments[0]) : 20261118L;
        int runs = arguments.length > 1 ? Integer.parseInt(arguments[1]) : 300;
        RandomRunsTest test = new RandomRunsTest(seed);
        for (int i = 0; i < runs && Check.wrongSoFar() < 20; i++) {
            test.go(i);
        }
        for (int i = 0; i < COLD_RUNS && Check.wrongSoFar() < 20; i++) {
            test.goCold(i);
        }
        System.out.println("reached: " + new java.util.TreeMap<>(test.seen));
        if (arguments.length == 0) {
            for (String what : test.seen.keySet()) {
                Check.due("the runs reach " + what, test.seen.get(what) > 0, true);
            }
        }
        Check.end("RandomRunsTest");
    }
}
