import java.util.Arrays;
import java.util.NoSuchElementException;

/**
 * A district heating network. All rows are made in constructors and used again, so that calls make no objects
 * but the exceptions that they throw.
 */
public final class HeatNetwork {
    private static final int NODES = 10;
    private static final int PLANT = 0;
    private static final int MOST_PIPES = 10;
    private static final int LONGEST = 99;
    private static final int ROUGHEST = 9;
    private static final int LARGEST = 99;
    private static final int LEAST_RETURN = 200;
    private static final int GREATEST_RETURN = 600;
    private static final int RETURN_STEP = 50;
    private static final int MOST_FLOW = 999;
    private static final int MOST_THOUSANDTHS = 2000;
    private static final int MOST_HOURS = 24;
    private static final int MOST_CHANGES = 8;

    private static final int SETTINGS = 7;
    private static final int SUPPLY = 0;
    private static final int GROUND = 1;
    private static final int OUTDOOR = 2;
    private static final int LOSS = 3;
    private static final int GREATEST_HEAD = 4;
    private static final int PRICE = 5;
    private static final int RATE = 6;
    private static final int[] LEAST_VALUES = {600, 0, -300, 0, 1, 0, 0};
    private static final int[] GREATEST_VALUES = {1200, 200, 300, 99, 999999999, 999, 99};
    private static final int[] FIRST_VALUES = {900, 100, 0, 10, 50000000, 100, 5};

    private static final int FAULT_NONE = 0;
    private static final int FAULT_STANDS = 1;
    private static final int FAULT_SHARE = 2;

    private static final int ACCEPTED = 0;
    private static final int NO_PLACE = 1;
    private static final int OUT_OF_RANGE = 2;
    private static final int SAME_PIPE = 3;
    private static final int FULL = 4;
    private static final int SECOND_LOOP = 5;
    private static final int STATION_DIFFERS = 6;
    private static final int HEAD_TOO_GREAT = 7;

    private final Network network = new Network();
    private final Network snapshot = new Network();
    private final Network tried = new Network();
    /** One row more than changes are kept: a change that fails midway must not have overwritten a kept one. */
    private final Network[] earlier = new Network[MOST_CHANGES + 1];
    private final Shape shape = new Shape();
    private final State state = new State();
    private final State triedState = new State();
    private final Text text = new Text();
    private int nextEarlier = 0;
    private int changes = 0;
    private boolean hasSnapshot = false;
    private boolean isSettled = false;
    private int faultAt = -1;
    private int reason = ACCEPTED;

    public HeatNetwork() {
        for (int i = 0; i < earlier.length; i++) {
            earlier[i] = new Network();
        }
    }

    public int setSetting(int setting, int value) throws IndexOutOfBoundsException, IllegalArgumentException {
        int refused = settingReason(setting, value);
        if (refused == NO_PLACE) {
            throw new IndexOutOfBoundsException("there is no such setting");
        }
        if (refused != ACCEPTED) {
            throw new IllegalArgumentException("the value is out of range");
        }
        int before = network.settings[setting];
        beginChange();
        network.settings[setting] = value;
        endChange();
        return before;
    }

    public int setting(int setting) throws IndexOutOfBoundsException {
        if (!isWithin(setting, 0, SETTINGS - 1)) {
            throw new IndexOutOfBoundsException("there is no such setting");
        }
        return network.settings[setting];
    }

    public int addPipe(int one, int other, int length, int roughness) throws UnsupportedOperationException {
        refuseFor(network.pipeReason(one, other, length, roughness));
        beginChange();
        network.putPipe(one, other, length, roughness);
        endChange();
        return network.pipes - 1;
    }

    public int removePipe(int pipe) throws IndexOutOfBoundsException {
        needPipe(pipe);
        beginChange();
        network.dropPipe(pipe);
        endChange();
        return network.pipes;
    }

    public int addStation(int node, int size, int returnTemperature, int greatestFlow)
            throws UnsupportedOperationException {
        refuseFor(network.stationReason(node, size, returnTemperature, greatestFlow));
        beginChange();
        network.putStation(node, size, returnTemperature, greatestFlow);
        endChange();
        return network.stationCount();
    }

    public int removeStation(int node) throws UnsupportedOperationException {
        refuseFor(network.removalReason(node));
        beginChange();
        network.dropStation(node);
        endChange();
        return network.stationCount();
    }

    public int setReturn(int node, int returnTemperature) throws NoSuchElementException, IllegalArgumentException {
        needStation(node);
        needRange(returnTemperature, LEAST_RETURN, GREATEST_RETURN);
        int before = network.returns[node];
        beginChange();
        network.returns[node] = returnTemperature;
        endChange();
        return before;
    }

    public int setMeter(int node, int fault, int thousandths)
            throws NoSuchElementException, IllegalArgumentException {
        needStation(node);
        needRange(fault, FAULT_NONE, FAULT_SHARE);
        needRange(thousandths, 0, MOST_THOUSANDTHS);
        int before = network.faults[node];
        beginChange();
        network.faults[node] = fault;
        network.thousandths[node] = thousandths;
        endChange();
        return before;
    }

    public long hours(int count) throws IllegalArgumentException, UnsupportedOperationException {
        needRange(count, 1, MOST_HOURS);
        settle();
        refuseFor(hoursReason());
        beginChange();
        passHours(count);
        endChange();
        return network.hoursGone;
    }

    public int append(int character) throws IllegalArgumentException, IllegalStateException {
        needRange(character, 32, 126);
        if (text.length >= Text.MOST_SIGNS) {
            throw new IllegalStateException("the buffer is full");
        }
        text.signs[text.length] = (char) character;
        text.length++;
        return text.length;
    }

    public int run() throws IllegalArgumentException, UnsupportedOperationException {
        faultAt = text.findFault();
        text.length = 0;
        if (faultAt >= 0) {
            throw new IllegalArgumentException("the text has a fault");
        }
        beginChange();
        int refused = ACCEPTED;
        for (int i = 0; i < text.definitions && refused == ACCEPTED; i++) {
            if (text.kinds[i] == 'h') {
                settle();
            }
            refused = carryOut(i);
        }
        if (refused != ACCEPTED) {
            network.takeOver(earlier[nextEarlier]);
            isSettled = false;
        }
        refuseFor(refused);
        endChange();
        return text.definitions;
    }

    public int faultPosition() {
        return faultAt;
    }

    public int refusal() throws NoSuchElementException {
        if (reason == ACCEPTED) {
            throw new NoSuchElementException("nothing was refused");
        }
        return reason;
    }

    public int pipe(int pipe, int what) throws IndexOutOfBoundsException, IllegalArgumentException {
        needPipe(pipe);
        needRange(what, 0, 4);
        switch (what) {
            case 0:
                return network.ones[pipe];
            case 1:
                return network.others[pipe];
            case 2:
                return network.lengths[pipe];
            case 3:
                return network.roughnesses[pipe];
            default:
                settle();
                return shape.isInLoop[pipe] ? 1 : 0;
        }
    }

    public int station(int node, int what) throws NoSuchElementException, IllegalArgumentException {
        needStation(node);
        needRange(what, 0, 7);
        switch (what) {
            case 0:
                return network.sizes[node];
            case 1:
                return network.returns[node];
            case 2:
                return network.greatestFlows[node];
            case 3:
                return network.faults[node];
            case 4:
                return network.thousandths[node];
            case 5:
                return network.wantedHeat(node);
            case 6:
                settle();
                return state.stationFlows[node];
            default:
                return network.tariffOf(node);
        }
    }

    public long meter(int node, int what) throws NoSuchElementException, IllegalArgumentException {
        needStation(node);
        needRange(what, 0, 3);
        switch (what) {
            case 0:
                return network.meters[node];
            case 1:
                return network.trueHeats[node];
            case 2:
                return network.payments[node];
            default:
                settle();
                return state.stationHeat(network, node);
        }
    }

    public int flow(int pipe) throws IndexOutOfBoundsException {
        needPipe(pipe);
        settle();
        return state.pipeFlows[pipe];
    }

    public char direction(int pipe) throws IndexOutOfBoundsException {
        needPipe(pipe);
        settle();
        int carried = state.pipeFlows[pipe];
        if (carried == 0) {
            return '0';
        }
        return carried > 0 ? '+' : '-';
    }

    public int temperature(int node, boolean isReturn) throws IndexOutOfBoundsException {
        needNode(node);
        settle();
        return isReturn ? state.coolTemperatures[node] : state.hotTemperatures[node];
    }

    public long loss(int pipe) throws IndexOutOfBoundsException {
        needPipe(pipe);
        settle();
        return state.pipeLosses[pipe];
    }

    public long rounding(int node) throws IndexOutOfBoundsException {
        needNode(node);
        settle();
        return state.remainders[node];
    }

    public long head(int node) throws NoSuchElementException {
        settle();
        needConnected(node);
        return state.heads[node];
    }

    public long neededHead() {
        settle();
        return state.greatestHead(shape);
    }

    public long imbalance() throws NoSuchElementException {
        settle();
        if (shape.loopLength == 0) {
            throw new NoSuchElementException("the part of the plant has no loop");
        }
        return state.loopImbalance;
    }

    public int rounds() {
        settle();
        return state.roundCount;
    }

    public int loop(int index) throws NoSuchElementException {
        settle();
        if (index < 0 || index >= shape.loopLength) {
            throw new NoSuchElementException("the loop has no such node");
        }
        return shape.loopNodes[index];
    }

    public int distance(int node) throws NoSuchElementException {
        settle();
        needConnected(node);
        return shape.distances[node];
    }

    public int part(int node) throws IndexOutOfBoundsException {
        needNode(node);
        return network.partOf(node);
    }

    public boolean isConnected(int node) throws IndexOutOfBoundsException {
        needNode(node);
        settle();
        return shape.distances[node] >= 0;
    }

    public int suspect() throws NoSuchElementException {
        int worst = -1;
        long most = -1;
        for (int node = 0; node < NODES; node++) {
            long differs = Math.abs(network.meters[node] - network.trueHeats[node]);
            if (network.hasStation(node) && differs > most) {
                worst = node;
                most = differs;
            }
        }
        if (worst < 0) {
            throw new NoSuchElementException("there are no stations");
        }
        return worst;
    }

    public long trial(int node, int returnTemperature) throws NoSuchElementException, IllegalArgumentException {
        needStation(node);
        needRange(returnTemperature, LEAST_RETURN, GREATEST_RETURN);
        settle();
        tryReturn(node, returnTemperature);
        return triedState.madeHeat(tried);
    }

    public int bestReturn(int node) throws NoSuchElementException {
        needStation(node);
        settle();
        int best = LEAST_RETURN;
        long least = Long.MAX_VALUE;
        for (int candidate = LEAST_RETURN; candidate <= GREATEST_RETURN; candidate += RETURN_STEP) {
            tryReturn(node, candidate);
            long counted = tried.countedHeat(node, triedState.stationHeat(tried, node));
            long pays = tried.paymentFor(node, counted);
            if (pays < least) {
                best = candidate;
                least = pays;
            }
        }
        return best;
    }

    public long account(int what) throws IllegalArgumentException {
        needRange(what, 0, 7);
        settle();
        switch (what) {
            case 0:
                return state.madeHeat(network);
            case 1:
                return state.allStationHeat(network);
            case 2:
                return sumOf(state.pipeLosses);
            case 3:
                return sumOf(state.remainders);
            case 4:
                return network.hoursGone;
            case 5:
                return network.madeInAll;
            case 6:
                return network.givenInAll;
            default:
                return network.paidInAll;
        }
    }

    public double efficiency() throws ArithmeticException {
        settle();
        long made = state.madeHeat(network);
        if (made == 0) {
            throw new ArithmeticException("no heat is made");
        }
        return (double) state.allStationHeat(network) / (double) made;
    }

    public float returnDegrees() {
        settle();
        return (float) state.coolTemperatures[PLANT] / 10.0f;
    }

    public int count(int what) throws IllegalArgumentException {
        needRange(what, 0, 5);
        switch (what) {
            case 0:
                return network.pipes;
            case 1:
                return network.stationCount();
            case 2:
                settle();
                return shape.connected;
            case 3:
                settle();
                return shape.loopLength;
            case 4:
                return changes;
            default:
                return text.length;
        }
    }

    public int undo() throws IllegalStateException {
        if (changes == 0) {
            throw new IllegalStateException("no change is kept");
        }
        nextEarlier = nextEarlier == 0 ? MOST_CHANGES : nextEarlier - 1;
        network.takeOver(earlier[nextEarlier]);
        isSettled = false;
        changes--;
        return changes;
    }

    public int save() {
        snapshot.takeOver(network);
        hasSnapshot = true;
        return network.pipes;
    }

    public int restore() throws IllegalStateException {
        if (!hasSnapshot) {
            throw new IllegalStateException("there is no snapshot");
        }
        network.takeOver(snapshot);
        isSettled = false;
        changes = 0;
        return network.pipes;
    }

    /** Keeps the network as it is; only endChange makes this a change that can be undone. */
    private void beginChange() {
        earlier[nextEarlier].takeOver(network);
    }

    private void endChange() {
        nextEarlier = nextEarlier == MOST_CHANGES ? 0 : nextEarlier + 1;
        changes = Math.min(changes + 1, MOST_CHANGES);
        isSettled = false;
    }

    /** Finds the state anew only if something has changed since it was found. */
    private void settle() {
        if (!isSettled) {
            shape.follow(network);
            state.find(network, shape);
            isSettled = true;
        }
    }

    /** The state must be settled: the pipes stay as they are in a trial, so the shape serves both states. */
    private void tryReturn(int node, int returnTemperature) {
        tried.takeOver(network);
        tried.returns[node] = returnTemperature;
        triedState.find(tried, shape);
    }

    /** Carries out a definition of the text, if it is not refused; answers the reason. For hours, settle first. */
    private int carryOut(int definition) {
        int a = text.valueOf(definition, 0);
        int b = text.valueOf(definition, 1);
        int c = text.valueOf(definition, 2);
        int d = text.valueOf(definition, 3);
        int refused = definitionReason(text.kinds[definition], a, b, c, d);
        if (refused != ACCEPTED) {
            return refused;
        }
        switch (text.kinds[definition]) {
            case 'p':
                network.putPipe(a, b, c, d);
                break;
            case 's':
                network.putStation(a, b, c, d);
                break;
            case 'x':
                network.dropStation(a);
                break;
            case 't':
                network.settings[a] = b;
                break;
            default:
                passHours(a);
                return ACCEPTED;
        }
        isSettled = false;
        return ACCEPTED;
    }

    private int definitionReason(char kind, int a, int b, int c, int d) {
        switch (kind) {
            case 'p':
                return network.pipeReason(a, b, c, d);
            case 's':
                return network.stationReason(a, b, c, d);
            case 'x':
                return network.removalReason(a);
            case 't':
                return settingReason(a, b);
            default:
                return isWithin(a, 1, MOST_HOURS) ? hoursReason() : OUT_OF_RANGE;
        }
    }

    /** The state must be settled. */
    private int hoursReason() {
        return state.greatestHead(shape) > network.settings[GREATEST_HEAD] ? HEAD_TOO_GREAT : ACCEPTED;
    }

    /** The state must be settled; as hours leave it as it is, all of them are alike. */
    private void passHours(int count) {
        for (int node = 0; node < NODES; node++) {
            if (network.hasStation(node)) {
                long heat = state.stationHeat(network, node);
                long counted = network.countedHeat(node, heat);
                long pays = network.paymentFor(node, counted);
                network.meters[node] += counted * count;
                network.trueHeats[node] += heat * count;
                network.payments[node] += pays * count;
                network.paidInAll += pays * count;
            }
        }
        network.hoursGone += count;
        network.madeInAll += state.madeHeat(network) * count;
        network.givenInAll += state.allStationHeat(network) * count;
    }

    private void refuseFor(int refused) {
        if (refused != ACCEPTED) {
            reason = refused;
            throw new UnsupportedOperationException("refused");
        }
    }

    private void needPipe(int pipe) {
        if (pipe < 0 || pipe >= network.pipes) {
            throw new IndexOutOfBoundsException("there is no such pipe");
        }
    }

    private void needStation(int node) {
        if (!network.hasStation(node)) {
            throw new NoSuchElementException("there is no station at the node");
        }
    }

    /** The state must be settled. */
    private void needConnected(int node) {
        if (!isNode(node) || shape.distances[node] < 0) {
            throw new NoSuchElementException("the node is not connected");
        }
    }

    private static void needNode(int node) {
        if (!isNode(node)) {
            throw new IndexOutOfBoundsException("there is no such node");
        }
    }

    private static void needRange(int value, int least, int greatest) {
        if (!isWithin(value, least, greatest)) {
            throw new IllegalArgumentException("out of range");
        }
    }

    private static boolean isNode(int node) {
        return isWithin(node, 0, NODES - 1);
    }

    /** Whether a pipe can have the number: -1 stands for no pipe. */
    private static boolean isPipe(int pipe) {
        return pipe >= 0 && pipe < MOST_PIPES;
    }

    private static boolean isWithin(int value, int least, int greatest) {
        return value >= least && value <= greatest;
    }

    private static int settingReason(int setting, int value) {
        if (!isWithin(setting, 0, SETTINGS - 1)) {
            return NO_PLACE;
        }
        return isWithin(value, LEAST_VALUES[setting], GREATEST_VALUES[setting]) ? ACCEPTED : OUT_OF_RANGE;
    }

    private static long sumOf(long[] row) {
        long sum = 0;
        for (int i = 0; i < row.length; i++) {
            sum += row[i];
        }
        return sum;
    }

    /** All that a change can alter and that undo and restore give back. */
    private static final class Network {
        final int[] settings = FIRST_VALUES.clone();
        int pipes = 0;
        final int[] ones = new int[MOST_PIPES];
        final int[] others = new int[MOST_PIPES];
        final int[] lengths = new int[MOST_PIPES];
        final int[] roughnesses = new int[MOST_PIPES];
        /** 0 where there is no station. */
        final int[] sizes = new int[NODES];
        final int[] returns = new int[NODES];
        final int[] greatestFlows = new int[NODES];
        final int[] faults = new int[NODES];
        final int[] thousandths = new int[NODES];
        final long[] meters = new long[NODES];
        final long[] trueHeats = new long[NODES];
        final long[] payments = new long[NODES];
        long hoursGone = 0;
        long madeInAll = 0;
        long givenInAll = 0;
        long paidInAll = 0;

        void takeOver(Network from) {
            System.arraycopy(from.settings, 0, settings, 0, SETTINGS);
            pipes = from.pipes;
            System.arraycopy(from.ones, 0, ones, 0, MOST_PIPES);
            System.arraycopy(from.others, 0, others, 0, MOST_PIPES);
            System.arraycopy(from.lengths, 0, lengths, 0, MOST_PIPES);
            System.arraycopy(from.roughnesses, 0, roughnesses, 0, MOST_PIPES);
            System.arraycopy(from.sizes, 0, sizes, 0, NODES);
            System.arraycopy(from.returns, 0, returns, 0, NODES);
            System.arraycopy(from.greatestFlows, 0, greatestFlows, 0, NODES);
            System.arraycopy(from.faults, 0, faults, 0, NODES);
            System.arraycopy(from.thousandths, 0, thousandths, 0, NODES);
            System.arraycopy(from.meters, 0, meters, 0, NODES);
            System.arraycopy(from.trueHeats, 0, trueHeats, 0, NODES);
            System.arraycopy(from.payments, 0, payments, 0, NODES);
            hoursGone = from.hoursGone;
            madeInAll = from.madeInAll;
            givenInAll = from.givenInAll;
            paidInAll = from.paidInAll;
        }

        int pipeReason(int one, int other, int length, int roughness) {
            if (!isNode(one) || !isNode(other)) {
                return NO_PLACE;
            }
            if (!isWithin(length, 1, LONGEST) || !isWithin(roughness, 1, ROUGHEST)) {
                return OUT_OF_RANGE;
            }
            if (one == other || hasPipe(one, other)) {
                return SAME_PIPE;
            }
            if (pipes >= MOST_PIPES) {
                return FULL;
            }
            int joined = partOf(one) | partOf(other);
            return pipesWithin(joined) + 1 > Integer.bitCount(joined) ? SECOND_LOOP : ACCEPTED;
        }

        int stationReason(int node, int size, int returnTemperature, int greatestFlow) {
            if (!isNode(node) || node == PLANT) {
                return NO_PLACE;
            }
            if (!isWithin(size, 1, LARGEST) || !isWithin(returnTemperature, LEAST_RETURN, GREATEST_RETURN)
                    || !isWithin(greatestFlow, 1, MOST_FLOW)) {
                return OUT_OF_RANGE;
            }
            return hasStation(node) ? STATION_DIFFERS : ACCEPTED;
        }

        int removalReason(int node) {
            if (!isNode(node) || node == PLANT) {
                return NO_PLACE;
            }
            return hasStation(node) ? ACCEPTED : STATION_DIFFERS;
        }

        /** Only behind pipeReason. */
        void putPipe(int one, int other, int length, int roughness) {
            ones[pipes] = one;
            others[pipes] = other;
            lengths[pipes] = length;
            roughnesses[pipes] = roughness;
            pipes++;
        }

        void dropPipe(int pipe) {
            pipes--;
            for (int i = pipe; i < pipes; i++) {
                ones[i] = ones[i + 1];
                others[i] = others[i + 1];
                lengths[i] = lengths[i + 1];
                roughnesses[i] = roughnesses[i + 1];
            }
        }

        void putStation(int node, int size, int returnTemperature, int greatestFlow) {
            sizes[node] = size;
            returns[node] = returnTemperature;
            greatestFlows[node] = greatestFlow;
            faults[node] = FAULT_NONE;
            thousandths[node] = 1000;
            meters[node] = 0;
            trueHeats[node] = 0;
            payments[node] = 0;
        }

        /** What else stood in the station's rows is written anew when the next one is made. */
        void dropStation(int node) {
            sizes[node] = 0;
        }

        boolean hasStation(int node) {
            return isNode(node) && sizes[node] > 0;
        }

        int stationCount() {
            int stations = 0;
            for (int node = 0; node < NODES; node++) {
                if (hasStation(node)) {
                    stations++;
                }
            }
            return stations;
        }

        boolean hasPipe(int one, int other) {
            for (int i = 0; i < pipes; i++) {
                if (farEnd(i, one) == other) {
                    return true;
                }
            }
            return false;
        }

        /** The end of a pipe that is not the node, or -1 if the pipe does not lie at the node. */
        int farEnd(int pipe, int node) {
            if (ones[pipe] == node) {
                return others[pipe];
            }
            return others[pipe] == node ? ones[pipe] : -1;
        }

        int partOf(int node) {
            int nodes = 1 << node;
            int before = 0;
            for (int step = 0; step < NODES && nodes != before; step++) {
                before = nodes;
                for (int i = 0; i < pipes; i++) {
                    int ends = 1 << ones[i] | 1 << others[i];
                    if ((nodes & ends) != 0) {
                        nodes |= ends;
                    }
                }
            }
            return nodes;
        }

        int pipesWithin(int nodes) {
            int within = 0;
            for (int i = 0; i < pipes; i++) {
                if ((nodes & 1 << ones[i]) != 0) {
                    within++;
                }
            }
            return within;
        }

        int wantedHeat(int node) {
            return sizes[node] * Math.max(0, 200 - settings[OUTDOOR]);
        }

        int tariffOf(int node) {
            int extra = Math.floorDiv(settings[RATE] * (returns[node] - 400), 10);
            return Math.max(0, settings[PRICE] + extra);
        }

        /** What the meter of a station counts in an hour. */
        long countedHeat(int node, long heat) {
            switch (faults[node]) {
                case FAULT_STANDS:
                    return 0;
                case FAULT_SHARE:
                    return Math.floorDiv(heat * thousandths[node], 1000L);
                default:
                    return heat;
            }
        }

        long paymentFor(int node, long counted) {
            return Math.floorDiv(counted * tariffOf(node), 1000L);
        }

        /** The drop of a pipe that carries a flow. */
        long dropOf(int pipe, int carried) {
            long resistance = lengths[pipe] * roughnesses[pipe];
            return resistance * carried * Math.abs(carried);
        }

        /** The temperature at which water leaves a pipe. */
        int cooled(int pipe, int carried, int entering) {
            int ground = settings[GROUND];
            long strength = 100L * carried;
            long divisor = strength + lengths[pipe] * settings[LOSS];
            return divisor <= 0 ? entering : ground + (int) ((entering - ground) * strength / divisor);
        }
    }

    /** How the part of the plant hangs together. */
    private static final class Shape {
        /** -1 where a node is not connected. */
        final int[] distances = new int[NODES];
        /** The connected nodes, the nearest first. */
        final int[] order = new int[NODES];
        int connected = 0;
        /** The node to whose flow the flow behind a node belongs: for all others in the loop, its beginning. */
        final int[] feeders = new int[NODES];
        /** The pipes that can bring hot water to a node: the second one only for nodes in the loop, otherwise -1. */
        final int[] firstPipes = new int[NODES];
        final int[] secondPipes = new int[NODES];
        final int[] loopNodes = new int[NODES];
        /** Each leads from the loop's node with the same index to the next one. */
        final int[] loopPipes = new int[NODES];
        int loopLength = 0;
        final boolean[] isInLoop = new boolean[MOST_PIPES];

        void follow(Network network) {
            findDistances(network);
            findLoop(network);
            for (int i = 1; i < loopLength; i++) {
                feeders[loopNodes[i]] = loopNodes[0];
                firstPipes[loopNodes[i]] = loopPipes[i - 1];
                secondPipes[loopNodes[i]] = loopPipes[i];
            }
        }

        boolean isLoopBeginning(int node) {
            return loopLength > 0 && loopNodes[0] == node;
        }

        private void findDistances(Network network) {
            Arrays.fill(distances, -1);
            Arrays.fill(feeders, -1);
            Arrays.fill(firstPipes, -1);
            Arrays.fill(secondPipes, -1);
            distances[PLANT] = 0;
            order[0] = PLANT;
            connected = 1;
            for (int i = 0; i < NODES && i < connected; i++) {
                int node = order[i];
                for (int pipe = 0; pipe < network.pipes; pipe++) {
                    int next = network.farEnd(pipe, node);
                    if (isNode(next) && distances[next] < 0 && connected < NODES) {
                        distances[next] = distances[node] + 1;
                        feeders[next] = node;
                        firstPipes[next] = pipe;
                        order[connected] = next;
                        connected++;
                    }
                }
            }
        }

        private void findLoop(Network network) {
            for (int pipe = 0; pipe < MOST_PIPES; pipe++) {
                isInLoop[pipe] = false;
            }
            loopLength = 0;
            int closing = closingPipe(network);
            if (!isPipe(closing)) {
                return;
            }
            isInLoop[closing] = true;
            int left = network.ones[closing];
            int right = network.others[closing];
            for (int step = 0; step < NODES && left != right && isNode(left) && isNode(right); step++) {
                if (distances[left] >= distances[right]) {
                    left = climb(left);
                } else {
                    right = climb(right);
                }
            }
            goRound(network, left);
        }

        /** Takes the pipe toward the plant into the loop; answers the node at its other end, -1 from the plant. */
        private int climb(int node) {
            int pipe = firstPipes[node];
            if (isPipe(pipe)) {
                isInLoop[pipe] = true;
            }
            return feeders[node];
        }

        /** The pipe by which no node was reached first; there is at most one, as there is at most one loop. */
        private int closingPipe(Network network) {
            for (int pipe = 0; pipe < network.pipes; pipe++) {
                int one = network.ones[pipe];
                int other = network.others[pipe];
                if (distances[one] >= 0 && firstPipes[one] != pipe && firstPipes[other] != pipe) {
                    return pipe;
                }
            }
            return -1;
        }

        private void goRound(Network network, int beginning) {
            int node = beginning;
            int pipe = -1;
            for (int i = 0; i < NODES && (i == 0 || node != beginning); i++) {
                pipe = nextInLoop(network, node, pipe);
                if (!isPipe(pipe)) {
                    return;
                }
                loopNodes[i] = node;
                loopPipes[i] = pipe;
                loopLength = i + 1;
                node = network.farEnd(pipe, node);
            }
        }

        /** The pipe of the loop that goes on from a node, at the beginning the one to the lower neighbor. */
        private int nextInLoop(Network network, int node, int before) {
            int next = -1;
            int lowest = NODES;
            for (int pipe = 0; pipe < network.pipes; pipe++) {
                int end = network.farEnd(pipe, node);
                if (isInLoop[pipe] && pipe != before && isNode(end) && end < lowest) {
                    next = pipe;
                    lowest = end;
                }
            }
            return next;
        }
    }

    /** Flows, temperatures and heads of an hour. */
    private static final class State {
        private static final int MOST_ROUNDS = 12;
        private static final int SEARCH_STEPS = 32;
        private static final int LEAST_DIFFERENCE = 50;

        final int[] stationFlows = new int[NODES];
        /** Above 0 from the first node of the pipe to the other one. */
        final int[] pipeFlows = new int[MOST_PIPES];
        /** Above 0 in the direction in which the loop goes. */
        final int[] loopFlows = new int[NODES];
        final int[] flowsBehind = new int[NODES];
        /** The connected nodes, each behind all from which hot water comes to it. */
        final int[] waterOrder = new int[NODES];
        final int[] hotTemperatures = new int[NODES];
        final int[] coolTemperatures = new int[NODES];
        final long[] flowsBack = new long[NODES];
        final long[] heatsBack = new long[NODES];
        final long[] remainders = new long[NODES];
        final long[] pipeLosses = new long[MOST_PIPES];
        final long[] heads = new long[NODES];
        long loopImbalance = 0;
        int roundCount = 0;

        void find(Network network, Shape shape) {
            Arrays.fill(hotTemperatures, network.settings[SUPPLY]);
            boolean isFound = false;
            for (int round = 1; round <= MOST_ROUNDS && !isFound; round++) {
                boolean isSame = findStationFlows(network, shape);
                isFound = isSame && round > 1;
                roundCount = round;
                if (!isFound) {
                    findTreeFlows(network, shape);
                    findLoopFlows(network, shape);
                    findWaterOrder(shape);
                    findTemperatures(network, shape);
                }
            }
            findReturns(network, shape);
            findHeads(network, shape);
        }

        long stationHeat(Network network, int node) {
            return (long) stationFlows[node] * (hotTemperatures[node] - network.returns[node]);
        }

        long allStationHeat(Network network) {
            long sum = 0;
            for (int node = 0; node < NODES; node++) {
                if (network.hasStation(node)) {
                    sum += stationHeat(network, node);
                }
            }
            return sum;
        }

        long madeHeat(Network network) {
            return flowsBack[PLANT] * (network.settings[SUPPLY] - coolTemperatures[PLANT]);
        }

        long greatestHead(Shape shape) {
            long greatest = 0;
            boolean hasFlow = false;
            for (int i = 0; i < shape.connected; i++) {
                int node = shape.order[i];
                if (stationFlows[node] > 0) {
                    greatest = hasFlow ? Math.max(greatest, heads[node]) : heads[node];
                    hasFlow = true;
                }
            }
            return greatest;
        }

        /** Answers whether all flows are the ones that stood here. */
        private boolean findStationFlows(Network network, Shape shape) {
            boolean isSame = true;
            for (int node = 0; node < NODES; node++) {
                int found = 0;
                if (network.hasStation(node) && shape.distances[node] >= 0) {
                    found = drawnFlow(network, node);
                }
                isSame = isSame && found == stationFlows[node];
                stationFlows[node] = found;
            }
            return isSame;
        }

        private int drawnFlow(Network network, int node) {
            int difference = hotTemperatures[node] - network.returns[node];
            if (difference < LEAST_DIFFERENCE) {
                return 0;
            }
            int wanted = (network.wantedHeat(node) + difference - 1) / difference;
            return Math.min(wanted, network.greatestFlows[node]);
        }

        /** The farthest nodes come first, so that what is behind a node is known when its turn comes. */
        private void findTreeFlows(Network network, Shape shape) {
            System.arraycopy(stationFlows, 0, flowsBehind, 0, NODES);
            Arrays.fill(pipeFlows, 0);
            for (int i = shape.connected - 1; i >= 0; i--) {
                int node = shape.order[i];
                int feeder = shape.feeders[node];
                if (isNode(feeder)) {
                    flowsBehind[feeder] += flowsBehind[node];
                }
                if (shape.secondPipes[node] < 0) {
                    carry(network, shape.firstPipes[node], feeder, flowsBehind[node]);
                }
            }
        }

        private void findLoopFlows(Network network, Shape shape) {
            loopImbalance = 0;
            if (shape.loopLength == 0) {
                return;
            }
            int least = 0;
            int greatest = 0;
            for (int i = 1; i < shape.loopLength; i++) {
                greatest += flowsBehind[shape.loopNodes[i]];
            }
            // The sum of the drops grows with the first flow, and is not negative if all goes round one way.
            for (int step = 0; step < SEARCH_STEPS && least < greatest; step++) {
                int middle = (least + greatest) / 2;
                if (sendRound(network, shape, middle) >= 0) {
                    greatest = middle;
                } else {
                    least = middle + 1;
                }
            }
            loopImbalance = sendRound(network, shape, least);
            for (int i = 0; i < shape.loopLength; i++) {
                carry(network, shape.loopPipes[i], shape.loopNodes[i], loopFlows[i]);
            }
        }

        /** Lets the first pipe of the loop carry a flow; answers the sum of the drops. */
        private long sendRound(Network network, Shape shape, int first) {
            int carried = first;
            long sum = 0;
            for (int i = 0; i < shape.loopLength; i++) {
                if (i > 0) {
                    carried -= flowsBehind[shape.loopNodes[i]];
                }
                loopFlows[i] = carried;
                sum += network.dropOf(shape.loopPipes[i], carried);
            }
            return sum;
        }

        /** The plant has no pipe toward itself: then it is -1. */
        private void carry(Network network, int pipe, int from, int carried) {
            if (isPipe(pipe)) {
                pipeFlows[pipe] = network.ones[pipe] == from ? carried : -carried;
            }
        }

        private void findWaterOrder(Shape shape) {
            int filled = 0;
            for (int i = 0; i < shape.connected; i++) {
                int node = shape.order[i];
                if (shape.secondPipes[node] < 0) {
                    filled = putInOrder(node, filled);
                }
                if (shape.isLoopBeginning(node)) {
                    filled = putLoopInOrder(shape, filled);
                }
            }
        }

        /** Water goes both ways from the loop's beginning: first the nodes of one way, then those of the other. */
        private int putLoopInOrder(Shape shape, int from) {
            int filled = from;
            for (int i = 1; i < shape.loopLength; i++) {
                if (loopFlows[i] >= 0) {
                    filled = putInOrder(shape.loopNodes[i], filled);
                }
            }
            for (int i = shape.loopLength - 1; i > 0; i--) {
                if (loopFlows[i] < 0) {
                    filled = putInOrder(shape.loopNodes[i], filled);
                }
            }
            return filled;
        }

        /** Answers how many nodes are in order then. */
        private int putInOrder(int node, int filled) {
            if (filled >= NODES) {
                return filled;
            }
            waterOrder[filled] = node;
            return filled + 1;
        }

        private void findTemperatures(Network network, Shape shape) {
            Arrays.fill(hotTemperatures, network.settings[GROUND]);
            Arrays.fill(remainders, 0L);
            Arrays.fill(pipeLosses, 0L);
            hotTemperatures[PLANT] = network.settings[SUPPLY];
            for (int i = 1; i < shape.connected; i++) {
                int node = waterOrder[i];
                int first = shape.firstPipes[node];
                int second = shape.secondPipes[node];
                long heat = bring(network, first, node) + bring(network, second, node);
                long carried = flowTo(network, first, node) + flowTo(network, second, node);
                if (carried > 0) {
                    hotTemperatures[node] = (int) (heat / carried);
                    remainders[node] = heat % carried;
                }
            }
        }

        /** The flow that a pipe carries to a node, 0 if it carries none to it or is -1. */
        private int flowTo(Network network, int pipe, int node) {
            if (!isPipe(pipe)) {
                return 0;
            }
            int carried = network.others[pipe] == node ? pipeFlows[pipe] : -pipeFlows[pipe];
            return Math.max(0, carried);
        }

        /** The flow that a pipe carries to a node times the temperature that it brings. */
        private long bring(Network network, int pipe, int node) {
            int carried = flowTo(network, pipe, node);
            int from = carried == 0 ? -1 : network.farEnd(pipe, node);
            if (!isNode(from)) {
                return 0;
            }
            int entering = hotTemperatures[from];
            int leaving = network.cooled(pipe, carried, entering);
            pipeLosses[pipe] = (long) carried * (entering - leaving);
            return (long) carried * leaving;
        }

        /** No round depends on what comes back, so this is found once, behind the last round. */
        private void findReturns(Network network, Shape shape) {
            Arrays.fill(coolTemperatures, network.settings[GROUND]);
            for (int node = 0; node < NODES; node++) {
                flowsBack[node] = stationFlows[node];
                heatsBack[node] = (long) stationFlows[node] * network.returns[node];
            }
            for (int i = shape.connected - 1; i >= 0; i--) {
                int node = waterOrder[i];
                if (flowsBack[node] > 0) {
                    coolTemperatures[node] = (int) (heatsBack[node] / flowsBack[node]);
                    remainders[node] += heatsBack[node] % flowsBack[node];
                }
                sendBack(network, shape.firstPipes[node], node);
                sendBack(network, shape.secondPipes[node], node);
            }
        }

        private void sendBack(Network network, int pipe, int node) {
            int carried = flowTo(network, pipe, node);
            int to = carried == 0 ? -1 : network.farEnd(pipe, node);
            if (!isNode(to)) {
                return;
            }
            int entering = coolTemperatures[node];
            int leaving = network.cooled(pipe, carried, entering);
            pipeLosses[pipe] += (long) carried * (entering - leaving);
            flowsBack[to] += carried;
            heatsBack[to] += (long) carried * leaving;
        }

        private void findHeads(Network network, Shape shape) {
            Arrays.fill(heads, 0L);
            for (int i = 0; i < shape.connected; i++) {
                int node = shape.order[i];
                int feeder = shape.feeders[node];
                int pipe = shape.firstPipes[node];
                if (isNode(feeder) && isPipe(pipe) && shape.secondPipes[node] < 0) {
                    heads[node] = heads[feeder] + network.dropOf(pipe, flowsBehind[node]);
                }
                if (shape.isLoopBeginning(node)) {
                    findLoopHeads(network, shape);
                }
            }
        }

        private void findLoopHeads(Network network, Shape shape) {
            for (int i = 1; i < shape.loopLength; i++) {
                long drop = network.dropOf(shape.loopPipes[i - 1], loopFlows[i - 1]);
                heads[shape.loopNodes[i]] = heads[shape.loopNodes[i - 1]] + drop;
            }
        }
    }

    /** The text buffer and the definitions that were read from it. */
    private static final class Text {
        static final int MOST_SIGNS = 60;
        /** The shortest definitions have 3 signs. */
        private static final int MOST_DEFINITIONS = 20;
        private static final int VALUES = 4;
        private static final int MOST_DIGITS = 3;

        final char[] signs = new char[MOST_SIGNS];
        int length = 0;
        int position = 0;
        int definitions = 0;
        final char[] kinds = new char[MOST_DEFINITIONS];
        final int[] values = new int[MOST_DEFINITIONS * VALUES];

        int valueOf(int definition, int index) {
            return values[definition * VALUES + index];
        }

        /** Reads the definitions; answers the fault position, or -1 if the text has no fault. */
        int findFault() {
            position = 0;
            definitions = 0;
            while (definitions < MOST_DEFINITIONS) {
                if (!readDefinition() || !take(';')) {
                    return position;
                }
                definitions++;
                if (position == length) {
                    return -1;
                }
            }
            return position;
        }

        private boolean readDefinition() {
            char kind = nextSign();
            kinds[definitions] = kind;
            switch (kind) {
                case 'p':
                    return take('p') && readNumber(0, 1) && take('-') && readNumber(1, 1) && take(':')
                            && readNumber(2, MOST_DIGITS) && take(',') && readNumber(3, MOST_DIGITS);
                case 's':
                    return take('s') && readNumber(0, 1) && take(':') && readNumber(1, MOST_DIGITS) && take(',')
                            && readNumber(2, MOST_DIGITS) && take(',') && readNumber(3, MOST_DIGITS);
                case 'x':
                    return take('x') && readNumber(0, 1);
                case 't':
                    return take('t') && readNumber(0, 1) && take('=') && readSigned(1);
                case 'h':
                    return take('h') && readNumber(0, MOST_DIGITS);
                default:
                    return false;
            }
        }

        /** 0, which no text contains, at the end. */
        private char nextSign() {
            return position < length ? signs[position] : 0;
        }

        private boolean take(char sign) {
            if (nextSign() != sign) {
                return false;
            }
            position++;
            return true;
        }

        private boolean readNumber(int index, int mostDigits) {
            int value = 0;
            int digits = 0;
            for (; digits < mostDigits && isWithin(nextSign(), '0', '9'); digits++) {
                value = value * 10 + (nextSign() - '0');
                position++;
            }
            values[definitions * VALUES + index] = value;
            return digits > 0;
        }

        private boolean readSigned(int index) {
            boolean isNegative = take('-');
            if (!readNumber(index, MOST_DIGITS)) {
                return false;
            }
            if (isNegative) {
                values[definitions * VALUES + index] = -valueOf(definitions, index);
            }
            return true;
        }
    }
}
