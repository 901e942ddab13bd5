import java.util.ArrayDeque;
import java.util.ArrayList;
import java.util.Deque;
import java.util.List;
import java.util.NoSuchElementException;
import java.util.TreeMap;
import java.util.TreeSet;
import java.util.regex.Matcher;
import java.util.regex.Pattern;

/**
 * The document read word by word, without any regard for speed and by other ways than HeatNetwork takes: flows and
 * temperatures by recursion, the loop's first flow by counting up from 0, texts by a regular expression.
 */
final class ReferenceNetwork {
    private static final int[] LEAST = {600, 0, -300, 0, 1, 0, 0};
    private static final int[] MOST = {1200, 200, 300, 99, 999999999, 999, 99};
    private static final String DEFINITION = "p\\d-\\d:\\d{1,3},\\d{1,3};|s\\d:\\d{1,3},\\d{1,3},\\d{1,3};"
            + "|x\\d;|t\\d=-?\\d{1,3};|h\\d{1,3};";
    private static final Pattern TEXT = Pattern.compile("(?:" + DEFINITION + ")+");

    static final class Station {
        int size;
        int back;
        int most;
        int fault = 0;
        int thousandths = 1000;
        long meter = 0;
        long heat = 0;
        long paid = 0;

        Station copy() {
            Station s = new Station();
            s.size = size;
            s.back = back;
            s.most = most;
            s.fault = fault;
            s.thousandths = thousandths;
            s.meter = meter;
            s.heat = heat;
            s.paid = paid;
            return s;
        }
    }

    static final class Data {
        int[] settings = {900, 100, 0, 10, 50000000, 100, 5};
        List<int[]> pipes = new ArrayList<>();
        TreeMap<Integer, Station> stations = new TreeMap<>();
        long hours = 0;
        long made = 0;
        long given = 0;
        long paid = 0;

        Data copy() {
            Data d = new Data();
            d.settings = settings.clone();
            d.pipes = new ArrayList<>(pipes);
            for (int n : stations.keySet()) {
                d.stations.put(n, stations.get(n).copy());
            }
            d.hours = hours;
            d.made = made;
            d.given = given;
            d.paid = paid;
            return d;
        }

        int tariff(Station s) {
            return Math.max(0, settings[5] + Math.floorDiv(settings[6] * (s.back - 400), 10));
        }

        long counted(Station s, long heat) {
            return s.fault == 0 ? heat : s.fault == 1 ? 0 : Math.floorDiv(heat * s.thousandths, 1000L);
        }

        long pays(Station s, long heat) {
            return Math.floorDiv(counted(s, heat) * tariff(s), 1000L);
        }
    }

    static final class Refused extends RuntimeException {
        private static final long serialVersionUID = 1;
        final int reason;

        Refused(int reason) {
            this.reason = reason;
        }
    }

    /** The state of a network as things are. */
    static final class Found {
        final Data data;
        final int[] distance = new int[10];
        final boolean[] inLoop;
        final List<Integer> loop = new ArrayList<>();
        final List<Integer> loopPipes = new ArrayList<>();
        int[] stationFlow = new int[10];
        long[] flow;
        long imbalance;
        int rounds;
        Integer[] hot;
        Integer[] back;
        long[] remainder = new long[10];

        Found(Data data) {
            this.data = data;
            inLoop = new boolean[data.pipes.size()];
            findDistances();
            findLoop();
            findRounds();
            back = new Integer[10];
            remainder = new long[10];
            hot = new Integer[10];
            for (int n = 0; n < 10; n++) {
                hot(n);
                back(n);
            }
        }

        private static int far(int[] pipe, int node) {
            return pipe[0] == node ? pipe[1] : pipe[1] == node ? pipe[0] : -1;
        }

        static TreeSet<Integer> part(List<int[]> pipes, int node) {
            TreeSet<Integer> nodes = new TreeSet<>();
            Deque<Integer> open = new ArrayDeque<>();
            open.push(node);
            while (!open.isEmpty()) {
                int n = open.pop();
                if (nodes.add(n)) {
                    for (int[] p : pipes) {
                        if (far(p, n) >= 0) {
                            open.push(far(p, n));
                        }
                    }
                }
            }
            return nodes;
        }

        boolean connected(int node) {
            return distance[node] < 1000;
        }

        private void findDistances() {
            java.util.Arrays.fill(distance, 1000);
            distance[0] = 0;
            for (int i = 0; i < 10; i++) {
                for (int[] p : data.pipes) {
                    distance[p[0]] = Math.min(distance[p[0]], distance[p[1]] + 1);
                    distance[p[1]] = Math.min(distance[p[1]], distance[p[0]] + 1);
                }
            }
            for (int n = 0; n < 10; n++) {
                distance[n] = Math.min(distance[n], 1000);
            }
        }

        /** A pipe is part of a loop if its ends hang together without it. */
        private void findLoop() {
            int beginning = -1;
            for (int i = 0; i < data.pipes.size(); i++) {
                int[] p = data.pipes.get(i);
                List<int[]> without = new ArrayList<>(data.pipes);
                without.remove(i);
                inLoop[i] = connected(p[0]) && part(without, p[0]).contains(p[1]);
                if (inLoop[i]) {
                    for (int end = 0; end < 2; end++) {
                        if (beginning < 0 || distance[p[end]] < distance[beginning]) {
                            beginning = p[end];
                        }
                    }
                }
            }
            if (beginning < 0) {
                return;
            }
            int node = beginning;
            int last = -1;
            do {
                int best = -1;
                for (int i = 0; i < data.pipes.size(); i++) {
                    int end = far(data.pipes.get(i), node);
                    if (inLoop[i] && end >= 0 && i != last && (best < 0 || end < far(data.pipes.get(best), node))) {
                        best = i;
                    }
                }
                loop.add(node);
                loopPipes.add(best);
                last = best;
                node = far(data.pipes.get(best), node);
            } while (node != beginning);
        }

        private void findRounds() {
            Integer[] temperatures = new Integer[10];
            java.util.Arrays.fill(temperatures, data.settings[0]);
            int[] before = null;
            for (int round = 1; round <= 12; round++) {
                rounds = round;
                stationFlow = new int[10];
                for (int n : data.stations.keySet()) {
                    stationFlow[n] = connected(n) ? drawn(data.stations.get(n), temperatures[n]) : 0;
                }
                findFlows();
                hot = new Integer[10];
                for (int n = 0; n < 10; n++) {
                    hot(n);
                }
                temperatures = hot;
                if (before != null && java.util.Arrays.equals(before, stationFlow)) {
                    return;
                }
                before = stationFlow;
            }
        }

        private int drawn(Station s, int temperature) {
            if (temperature < s.back + 50) {
                return 0;
            }
            int wants = wants(s);
            int difference = temperature - s.back;
            int exact = wants / difference + (wants % difference != 0 ? 1 : 0);
            return Math.min(exact, s.most);
        }

        int wants(Station s) {
            return data.settings[2] < 200 ? s.size * (200 - data.settings[2]) : 0;
        }

        private long behind(int node, boolean withLoop) {
            long sum = stationFlow[node];
            for (int i = 0; i < data.pipes.size(); i++) {
                int end = far(data.pipes.get(i), node);
                if (end >= 0 && !inLoop[i] && distance[end] > distance[node]) {
                    sum += behind(end, true);
                }
            }
            if (withLoop && !loop.isEmpty() && loop.get(0) == node) {
                for (int i = 1; i < loop.size(); i++) {
                    sum += behind(loop.get(i), true);
                }
            }
            return sum;
        }

        private void findFlows() {
            flow = new long[data.pipes.size()];
            for (int i = 0; i < data.pipes.size(); i++) {
                int[] p = data.pipes.get(i);
                if (!inLoop[i] && connected(p[0])) {
                    flow[i] = distance[p[1]] > distance[p[0]] ? behind(p[1], true) : -behind(p[0], true);
                }
            }
            imbalance = 0;
            if (loop.isEmpty()) {
                return;
            }
            long[] taken = new long[loop.size()];
            for (int k = 1; k < loop.size(); k++) {
                taken[k] = behind(loop.get(k), false);
            }
            long x = -1;
            do {
                x++;
                imbalance = 0;
                long carried = x;
                for (int k = 0; k < loop.size(); k++) {
                    carried -= taken[k];
                    int[] p = data.pipes.get(loopPipes.get(k));
                    imbalance += drop(p, carried);
                    flow[loopPipes.get(k)] = p[0] == loop.get(k) ? carried : -carried;
                }
            } while (imbalance < 0);
        }

        static long drop(int[] p, long carried) {
            return (long) p[2] * p[3] * carried * Math.abs(carried);
        }

        private int through(int i, int temperature) {
            long f = Math.abs(flow[i]);
            int ground = data.settings[1];
            int[] p = data.pipes.get(i);
            return ground + (int) Math.floorDiv((temperature - ground) * 100L * f, 100L * f + p[2] * data.settings[3]);
        }

        /** The flow that a pipe carries to a node, below 0 if it carries it away. */
        private long toward(int i, int node) {
            int[] p = data.pipes.get(i);
            return p[1] == node ? flow[i] : p[0] == node ? -flow[i] : 0;
        }

        private int hot(int node) {
            if (hot[node] != null) {
                return hot[node];
            }
            long heat = 0;
            long sum = 0;
            for (int i = 0; i < data.pipes.size() && node != 0; i++) {
                if (toward(i, node) > 0) {
                    heat += toward(i, node) * through(i, hot(far(data.pipes.get(i), node)));
                    sum += toward(i, node);
                }
            }
            hot[node] = node == 0 ? data.settings[0] : sum == 0 ? data.settings[1] : (int) (heat / sum);
            remainder[node] += sum == 0 ? 0 : heat % sum;
            return hot[node];
        }

        private int back(int node) {
            if (back[node] != null) {
                return back[node];
            }
            long sum = stationFlow[node];
            long heat = sum == 0 ? 0 : sum * data.stations.get(node).back;
            for (int i = 0; i < data.pipes.size(); i++) {
                if (toward(i, node) < 0) {
                    heat += -toward(i, node) * through(i, back(far(data.pipes.get(i), node)));
                    sum += -toward(i, node);
                }
            }
            back[node] = sum == 0 ? data.settings[1] : (int) (heat / sum);
            remainder[node] += sum == 0 ? 0 : heat % sum;
            return back[node];
        }

        long heat(int node) {
            return (long) stationFlow[node] * (hot[node] - data.stations.get(node).back);
        }

        long heats() {
            long sum = 0;
            for (int n : data.stations.keySet()) {
                sum += heat(n);
            }
            return sum;
        }

        long made() {
            long leaving = 0;
            for (int i = 0; i < data.pipes.size(); i++) {
                leaving -= toward(i, 0);
            }
            return leaving * (data.settings[0] - back[0]);
        }

        long loss(int i) {
            if (flow[i] == 0) {
                return 0;
            }
            int[] p = data.pipes.get(i);
            int from = flow[i] > 0 ? p[0] : p[1];
            int to = flow[i] > 0 ? p[1] : p[0];
            return Math.abs(flow[i]) * (hot[from] - through(i, hot[from]) + back[to] - through(i, back[to]));
        }

        long head(int node) {
            if (node == 0) {
                return 0;
            }
            int index = loop.indexOf(node);
            if (index > 0) {
                int[] p = data.pipes.get(loopPipes.get(index - 1));
                long carried = flow[loopPipes.get(index - 1)];
                return head(loop.get(index - 1)) + drop(p, p[1] == node ? carried : -carried);
            }
            for (int i = 0; i < data.pipes.size(); i++) {
                int end = far(data.pipes.get(i), node);
                if (!inLoop[i] && end >= 0 && distance[end] < distance[node]) {
                    return head(end) + drop(data.pipes.get(i), behind(node, true));
                }
            }
            throw new IllegalStateException("no way");
        }

        long needed() {
            Long most = null;
            for (int n : data.stations.keySet()) {
                if (stationFlow[n] > 0 && (most == null || head(n) > most)) {
                    most = head(n);
                }
            }
            return most == null ? 0 : most;
        }
    }

    private Data data = new Data();
    private Data saved = null;
    private final Deque<Data> undone = new ArrayDeque<>();
    private String buffer = "";
    private int fault = -1;
    private int reason = 0;

    Found found() {
        return new Found(data);
    }

    private static boolean out(int value, int least, int most) {
        return value < least || value > most;
    }

    private void keep(Data before) {
        undone.push(before);
        while (undone.size() > 8) {
            undone.removeLast();
        }
    }

    private void index(boolean isThere) {
        if (!isThere) {
            throw new IndexOutOfBoundsException();
        }
    }

    private void argument(boolean isRight) {
        if (!isRight) {
            throw new IllegalArgumentException();
        }
    }

    private void element(boolean isThere) {
        if (!isThere) {
            throw new NoSuchElementException();
        }
    }

    private Station at(int node) {
        element(data.stations.containsKey(node));
        return data.stations.get(node);
    }

    private static void refuseIf(boolean isSo, int reason) {
        if (isSo) {
            throw new Refused(reason);
        }
    }

    private static void doPipe(Data d, int one, int other, int length, int roughness) {
        refuseIf(out(one, 0, 9) || out(other, 0, 9), 1);
        refuseIf(out(length, 1, 99) || out(roughness, 1, 9), 2);
        boolean isThere = one == other;
        for (int[] p : d.pipes) {
            isThere |= p[0] == one && p[1] == other || p[0] == other && p[1] == one;
        }
        refuseIf(isThere, 3);
        refuseIf(d.pipes.size() == 10, 4);
        d.pipes.add(new int[] {one, other, length, roughness});
        TreeSet<Integer> nodes = Found.part(d.pipes, one);
        int pipes = 0;
        for (int[] p : d.pipes) {
            pipes += nodes.contains(p[0]) ? 1 : 0;
        }
        refuseIf(pipes > nodes.size(), 5);
    }

    private static void doStation(Data d, int node, int size, int back, int most) {
        refuseIf(out(node, 1, 9), 1);
        refuseIf(out(size, 1, 99) || out(back, 200, 600) || out(most, 1, 999), 2);
        refuseIf(d.stations.containsKey(node), 6);
        Station s = new Station();
        s.size = size;
        s.back = back;
        s.most = most;
        d.stations.put(node, s);
    }

    private static void doRemove(Data d, int node) {
        refuseIf(out(node, 1, 9), 1);
        refuseIf(!d.stations.containsKey(node), 6);
        d.stations.remove(node);
    }

    private static void doSetting(Data d, int setting, int value) {
        refuseIf(out(setting, 0, 6), 1);
        refuseIf(out(value, LEAST[setting], MOST[setting]), 2);
        d.settings[setting] = value;
    }

    private static void doHours(Data d, int count) {
        refuseIf(out(count, 1, 24), 2);
        Found f = new Found(d);
        refuseIf(f.needed() > d.settings[4], 7);
        for (int i = 0; i < count; i++) {
            for (int n : d.stations.keySet()) {
                Station s = d.stations.get(n);
                s.meter += d.counted(s, f.heat(n));
                s.heat += f.heat(n);
                s.paid += d.pays(s, f.heat(n));
                d.paid += d.pays(s, f.heat(n));
                d.given += f.heat(n);
            }
            d.hours++;
            d.made += f.made();
        }
    }

    private interface Work {
        void on(Data d);
    }

    private void carryOut(Work work) {
        Data next = data.copy();
        int refused = 0;
        try {
            work.on(next);
        } catch (Refused e) {
            refused = e.reason;
        }
        if (refused != 0) {
            reason = refused;
            throw new UnsupportedOperationException();
        }
        keep(data);
        data = next;
    }

    public int setSetting(int setting, int value) {
        index(!out(setting, 0, 6));
        argument(!out(value, LEAST[setting], MOST[setting]));
        int before = data.settings[setting];
        carryOut(d -> doSetting(d, setting, value));
        return before;
    }

    public int setting(int setting) {
        index(!out(setting, 0, 6));
        return data.settings[setting];
    }

    public int addPipe(int one, int other, int length, int roughness) {
        carryOut(d -> doPipe(d, one, other, length, roughness));
        return data.pipes.size() - 1;
    }

    public int removePipe(int pipe) {
        index(!out(pipe, 0, data.pipes.size() - 1));
        carryOut(d -> d.pipes.remove(pipe));
        return data.pipes.size();
    }

    public int addStation(int node, int size, int returnTemperature, int greatestFlow) {
        carryOut(d -> doStation(d, node, size, returnTemperature, greatestFlow));
        return data.stations.size();
    }

    public int removeStation(int node) {
        carryOut(d -> doRemove(d, node));
        return data.stations.size();
    }

    public int setReturn(int node, int returnTemperature) {
        int before = at(node).back;
        argument(!out(returnTemperature, 200, 600));
        carryOut(d -> d.stations.get(node).back = returnTemperature);
        return before;
    }

    public int setMeter(int node, int fault, int thousandths) {
        int before = at(node).fault;
        argument(!out(fault, 0, 2) && !out(thousandths, 0, 2000));
        carryOut(d -> {
            d.stations.get(node).fault = fault;
            d.stations.get(node).thousandths = thousandths;
        });
        return before;
    }

    public long hours(int count) {
        argument(!out(count, 1, 24));
        carryOut(d -> doHours(d, count));
        return data.hours;
    }

    public int append(int character) {
        argument(!out(character, 32, 126));
        if (buffer.length() == 60) {
            throw new IllegalStateException();
        }
        buffer += (char) character;
        return buffer.length();
    }

    private static int faultOf(String text) {
        for (int i = 0; i < text.length(); i++) {
            Matcher m = TEXT.matcher(text.substring(0, i + 1));
            if (!m.matches() && !m.hitEnd()) {
                return i;
            }
        }
        return TEXT.matcher(text).matches() ? -1 : text.length();
    }

    private static void doDefinition(Data d, String text) {
        String[] parts = text.substring(1).split("[:,=]|(?<=\\d)-");
        int[] v = new int[4];
        for (int i = 0; i < parts.length; i++) {
            v[i] = Integer.parseInt(parts[i]);
        }
        switch (text.charAt(0)) {
            case 'p' -> doPipe(d, v[0], v[1], v[2], v[3]);
            case 's' -> doStation(d, v[0], v[1], v[2], v[3]);
            case 'x' -> doRemove(d, v[0]);
            case 't' -> doSetting(d, v[0], v[1]);
            default -> doHours(d, v[0]);
        }
    }

    public int run() {
        String text = buffer;
        buffer = "";
        fault = faultOf(text);
        argument(fault < 0);
        String[] definitions = text.split(";");
        carryOut(d -> {
            for (String definition : definitions) {
                doDefinition(d, definition);
            }
        });
        return definitions.length;
    }

    public int faultPosition() {
        return fault;
    }

    public int refusal() {
        element(reason != 0);
        return reason;
    }

    public int pipe(int pipe, int what) {
        index(!out(pipe, 0, data.pipes.size() - 1));
        argument(!out(what, 0, 4));
        return what < 4 ? data.pipes.get(pipe)[what] : found().inLoop[pipe] ? 1 : 0;
    }

    public int station(int node, int what) {
        Station s = at(node);
        argument(!out(what, 0, 7));
        return switch (what) {
            case 0 -> s.size;
            case 1 -> s.back;
            case 2 -> s.most;
            case 3 -> s.fault;
            case 4 -> s.thousandths;
            case 5 -> found().wants(s);
            case 6 -> found().stationFlow[node];
            default -> data.tariff(s);
        };
    }

    public long meter(int node, int what) {
        Station s = at(node);
        argument(!out(what, 0, 3));
        return what == 0 ? s.meter : what == 1 ? s.heat : what == 2 ? s.paid : found().heat(node);
    }

    public int flow(int pipe) {
        index(!out(pipe, 0, data.pipes.size() - 1));
        return (int) found().flow[pipe];
    }

    public char direction(int pipe) {
        index(!out(pipe, 0, data.pipes.size() - 1));
        long f = found().flow[pipe];
        return f > 0 ? '+' : f < 0 ? '-' : '0';
    }

    public int temperature(int node, boolean isReturn) {
        index(!out(node, 0, 9));
        return isReturn ? found().back[node] : found().hot[node];
    }

    public long loss(int pipe) {
        index(!out(pipe, 0, data.pipes.size() - 1));
        return found().loss(pipe);
    }

    public long rounding(int node) {
        index(!out(node, 0, 9));
        return found().remainder[node];
    }

    public long head(int node) {
        element(!out(node, 0, 9) && found().connected(node));
        return found().head(node);
    }

    public long neededHead() {
        return found().needed();
    }

    public long imbalance() {
        element(!found().loop.isEmpty());
        return found().imbalance;
    }

    public int rounds() {
        return found().rounds;
    }

    public int loop(int index) {
        element(!out(index, 0, found().loop.size() - 1));
        return found().loop.get(index);
    }

    public int distance(int node) {
        element(!out(node, 0, 9) && found().connected(node));
        return found().distance[node];
    }

    public int part(int node) {
        index(!out(node, 0, 9));
        int bits = 0;
        for (int n : Found.part(data.pipes, node)) {
            bits += 1 << n;
        }
        return bits;
    }

    public boolean isConnected(int node) {
        index(!out(node, 0, 9));
        return Found.part(data.pipes, 0).contains(node);
    }

    public int suspect() {
        element(!data.stations.isEmpty());
        int worst = data.stations.firstKey();
        for (int n : data.stations.keySet()) {
            Station w = data.stations.get(worst);
            Station s = data.stations.get(n);
            if (Math.abs(s.meter - s.heat) > Math.abs(w.meter - w.heat)) {
                worst = n;
            }
        }
        return worst;
    }

    private Found tried(int node, int back) {
        Data d = data.copy();
        d.stations.get(node).back = back;
        return new Found(d);
    }

    public long trial(int node, int returnTemperature) {
        at(node);
        argument(!out(returnTemperature, 200, 600));
        return tried(node, returnTemperature).made();
    }

    public int bestReturn(int node) {
        at(node);
        int best = -1;
        long least = 0;
        for (int back : new int[] {200, 250, 300, 350, 400, 450, 500, 550, 600}) {
            Found f = tried(node, back);
            long pays = f.data.pays(f.data.stations.get(node), f.heat(node));
            if (best < 0 || pays < least) {
                best = back;
                least = pays;
            }
        }
        return best;
    }

    public long account(int what) {
        argument(!out(what, 0, 7));
        Found f = found();
        long sum = 0;
        for (int i = 0; i < data.pipes.size() && what == 2; i++) {
            sum += f.loss(i);
        }
        for (int n = 0; n < 10 && what == 3; n++) {
            sum += f.remainder[n];
        }
        return switch (what) {
            case 0 -> f.made();
            case 1 -> f.heats();
            case 4 -> data.hours;
            case 5 -> data.made;
            case 6 -> data.given;
            case 7 -> data.paid;
            default -> sum;
        };
    }

    public double efficiency() {
        Found f = found();
        if (f.made() == 0) {
            throw new ArithmeticException();
        }
        return (double) f.heats() / (double) f.made();
    }

    public float returnDegrees() {
        return (float) (int) found().back[0] / 10;
    }

    public int count(int what) {
        argument(!out(what, 0, 5));
        return switch (what) {
            case 0 -> data.pipes.size();
            case 1 -> data.stations.size();
            case 2 -> Found.part(data.pipes, 0).size();
            case 3 -> found().loop.size();
            case 4 -> undone.size();
            default -> buffer.length();
        };
    }

    public int undo() {
        if (undone.isEmpty()) {
            throw new IllegalStateException();
        }
        data = undone.pop();
        return undone.size();
    }

    public int save() {
        saved = data.copy();
        return data.pipes.size();
    }

    public int restore() {
        if (saved == null) {
            throw new IllegalStateException();
        }
        data = saved.copy();
        undone.clear();
        return data.pipes.size();
    }
}
