import java.util.function.Supplier;

/** All answers of an object in one text, so that two objects can be compared whole. */
final class Answers {
    private static final int MOST_UNDOS = 9;

    private Answers() {
    }

    interface Made {
        Object on(HeatNetwork x);
    }

    /**
     * What the network answers, in some 330 calls. The text buffer, the fault position and the reason that is kept
     * do not belong to it.
     */
    static String of(HeatNetwork x) {
        StringBuilder all = new StringBuilder();
        for (int i = 0; i < 7; i++) {
            int setting = i;
            put(all, "setting " + i, () -> x.setting(setting));
        }
        for (int i = 0; i < 5; i++) {
            int what = i;
            put(all, "count " + i, () -> x.count(what));
        }
        for (int i = 0; i < 8; i++) {
            int what = i;
            put(all, "account " + i, () -> x.account(what));
        }
        put(all, "rounds", () -> x.rounds());
        put(all, "neededHead", () -> x.neededHead());
        put(all, "imbalance", () -> x.imbalance());
        put(all, "suspect", () -> x.suspect());
        put(all, "efficiency", () -> x.efficiency());
        put(all, "returnDegrees", () -> x.returnDegrees());
        for (int i = 0; i <= x.count(3); i++) {
            int index = i;
            put(all, "loop " + i, () -> x.loop(index));
        }
        for (int pipe = 0; pipe <= x.count(0); pipe++) {
            putPipe(all, x, pipe);
        }
        for (int node = 0; node < 10; node++) {
            putNode(all, x, node);
        }
        return all.toString();
    }

    private static void putPipe(StringBuilder all, HeatNetwork x, int pipe) {
        for (int i = 0; i < 5; i++) {
            int what = i;
            put(all, "pipe " + pipe + " " + i, () -> x.pipe(pipe, what));
        }
        put(all, "flow " + pipe, () -> x.flow(pipe));
        put(all, "direction " + pipe, () -> x.direction(pipe));
        put(all, "loss " + pipe, () -> x.loss(pipe));
    }

    private static void putNode(StringBuilder all, HeatNetwork x, int node) {
        put(all, "hot " + node, () -> x.temperature(node, false));
        put(all, "cool " + node, () -> x.temperature(node, true));
        put(all, "rounding " + node, () -> x.rounding(node));
        put(all, "head " + node, () -> x.head(node));
        put(all, "distance " + node, () -> x.distance(node));
        put(all, "part " + node, () -> x.part(node));
        put(all, "isConnected " + node, () -> x.isConnected(node));
        if (put(all, "station " + node + " 0", () -> x.station(node, 0))) {
            putStation(all, x, node);
        }
    }

    private static void putStation(StringBuilder all, HeatNetwork x, int node) {
        for (int i = 1; i < 8; i++) {
            int what = i;
            put(all, "station " + node + " " + i, () -> x.station(node, what));
        }
        for (int i = 0; i < 4; i++) {
            int what = i;
            put(all, "meter " + node + " " + i, () -> x.meter(node, what));
        }
        put(all, "trial " + node, () -> x.trial(node, 250));
        put(all, "bestReturn " + node, () -> x.bestReturn(node));
    }

    /** Answers whether the call did not end with an exception. */
    private static boolean put(StringBuilder all, String name, Check.Call call) {
        String answer;
        boolean isAnswer = true;
        try {
            answer = String.valueOf(call.answer());
        } catch (RuntimeException e) {
            answer = e.getClass().getName();
            isAnswer = false;
        }
        all.append(name).append(' ').append(answer).append('\n');
        return isAnswer;
    }

    /** Each answer must be the same whether it is asked first or behind all others. */
    static void askedFirst(String name, Supplier<HeatNetwork> made, Made... calls) {
        for (int i = 0; i < calls.length; i++) {
            HeatNetwork x = made.get();
            of(x);
            Check.due(name + ", call " + i, calls[i].on(made.get()), calls[i].on(x));
        }
    }

    /**
     * Of two objects that are made alike, one makes the call. Both must answer alike then, and behind each number of
     * undos, and behind restore.
     */
    static void stay(String name, Supplier<HeatNetwork> made, Made call) {
        for (int undos = 0; undos <= MOST_UNDOS; undos++) {
            int times = undos;
            alike(name + ", undone " + undos, made, call, y -> undo(y, times));
        }
        alike(name + ", restored", made, call, Answers::restore);
    }

    private static void alike(String name, Supplier<HeatNetwork> made, Made call, Made then) {
        HeatNetwork x = made.get();
        HeatNetwork y = made.get();
        try {
            call.on(x);
        } catch (RuntimeException e) {
            // The tests of the call look at its exception.
        }
        then.on(x);
        then.on(y);
        String[] got = of(x).split("\n");
        String[] want = of(y).split("\n");
        for (int i = 0; i < Math.min(got.length, want.length); i++) {
            if (!got[i].equals(want[i])) {
                Check.due(name, got[i], want[i]);
                return;
            }
        }
        Check.due(name + ": as many answers", got.length, want.length);
    }

    private static Object undo(HeatNetwork x, int times) {
        for (int i = 0; i < times && x.count(4) > 0; i++) {
            x.undo();
        }
        return null;
    }

    private static Object restore(HeatNetwork x) {
        try {
            return x.restore();
        } catch (IllegalStateException e) {
            return null;
        }
    }
}
