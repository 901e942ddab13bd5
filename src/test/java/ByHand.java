import java.util.NoSuchElementException;

/** What the tests with answers worked out by hand share: names of exceptions, ways to call, and some networks. */
abstract class ByHand {
    static final Class<IndexOutOfBoundsException> INDEX = IndexOutOfBoundsException.class;
    static final Class<IllegalArgumentException> ARGUMENT = IllegalArgumentException.class;
    static final Class<UnsupportedOperationException> REFUSED = UnsupportedOperationException.class;
    static final Class<NoSuchElementException> ELEMENT = NoSuchElementException.class;
    static final Class<IllegalStateException> STATE = IllegalStateException.class;
    static final Class<ArithmeticException> ARITHMETIC = ArithmeticException.class;
    static final int FAR = Integer.MAX_VALUE;
    static final int FAR_BELOW = Integer.MIN_VALUE;
    /** No nodes; 65536 and 2^31 more or less than a node must not be taken for it. */
    static final int[] NO_NODES = {-1, 10, 11, 16, 32, 65536, FAR, FAR_BELOW, FAR_BELOW + 1};

    /** No pipes of a network that has some. */
    static int[] noPipes(int pipes) {
        return new int[] {-1, pipes, pipes + 1, 10, 65536, FAR, FAR_BELOW};
    }

    static void due(String call, Object got, Object want) {
        Check.due(call, got, want);
    }

    static void thrown(String call, Class<? extends RuntimeException> want, Check.Call made) {
        Check.thrown(call, want, made);
    }

    /** The call must be refused, and the reason kept. */
    static void refused(String call, int reason, HeatNetwork x, Check.Call made) {
        thrown(call, REFUSED, made);
        due(call + ", refusal()", x.refusal(), reason);
    }

    static int write(HeatNetwork x, String text) {
        for (int i = 0; i < text.length(); i++) {
            x.append(text.charAt(i));
        }
        return text.length();
    }

    static int runText(HeatNetwork x, String text) {
        write(x, text);
        return x.run();
    }

    /** A pipe of 9 and 2 to a station that wants 1800: round by round it draws 3, 5, 4, 4, at 715, 777, 753, 753. */
    static HeatNetwork oneStation() {
        HeatNetwork x = new HeatNetwork();
        x.addPipe(0, 1, 9, 2);
        x.addStation(1, 9, 300, 9);
        return x;
    }

    /** Without losses; the stations draw 1200 / 600 = 2 and, rounded up, 1800 / 449 = 5. */
    static HeatNetwork twoStations() {
        HeatNetwork x = new HeatNetwork();
        x.setSetting(3, 0);
        x.addPipe(0, 1, 2, 3);
        x.addPipe(2, 1, 5, 1);
        x.addStation(1, 6, 300, 999);
        x.addStation(2, 9, 451, 999);
        return x;
    }

    /** Without losses; a triangle of resistance 1 behind a pipe, with 3 drawn at node 2 and 8 at node 3. */
    static HeatNetwork triangle() {
        HeatNetwork x = new HeatNetwork();
        x.setSetting(3, 0);
        x.addPipe(0, 1, 2, 1);
        x.addPipe(3, 1, 1, 1);
        x.addPipe(3, 2, 1, 1);
        x.addPipe(1, 2, 1, 1);
        x.addStation(2, 99, 200, 3);
        x.addStation(3, 99, 200, 8);
        return x;
    }

    /**
     * Each pipe leaves f / (f + 1) of the difference to the ground. 4 go from the plant to node 1 and arrive at 740,
     * 3 of them go to node 2 and arrive at 580, 1 goes to node 3 and arrives at 420. Back come 175 and 200 at node 1,
     * which mix to 181, 1 left, and 164 at the plant. Heads: 32, 86 and 36.
     */
    static HeatNetwork fork() {
        HeatNetwork x = new HeatNetwork();
        x.setSetting(3, 50);
        x.addPipe(0, 1, 2, 1);
        x.addPipe(2, 1, 2, 3);
        x.addPipe(1, 3, 2, 2);
        x.addStation(2, 99, 200, 3);
        x.addStation(3, 99, 300, 1);
        return x;
    }

    /**
     * The same pipes in a loop at the plant, each with a resistance of 2; 1 is drawn at node 1 and 4 at node 2. To
     * node 1 go 3 and arrive at 700, 2 of them go on to node 2 and arrive at 500, where 2 from the plant arrive at 633:
     * that is 566, 2 left. Back come 166 and 166; at node 1 that is 177, 1 left, and at the plant 157 and 166: 160,
     * 3 left.
     */
    static HeatNetwork ring() {
        HeatNetwork x = new HeatNetwork();
        x.setSetting(3, 50);
        x.addPipe(0, 2, 2, 1);
        x.addPipe(2, 1, 2, 1);
        x.addPipe(1, 0, 2, 1);
        x.addStation(1, 99, 200, 1);
        x.addStation(2, 99, 200, 4);
        return x;
    }

    /** Without losses, the pipes in the order of the nodes 0, 1, .. 9. */
    static HeatNetwork chainOfTen() {
        HeatNetwork x = new HeatNetwork();
        x.setSetting(3, 0);
        for (int node = 1; node < 10; node++) {
            x.addPipe(node - 1, node, 1, 1);
        }
        return x;
    }

    /** 10 pipes: the loop of all nodes. */
    static HeatNetwork fullOfPipes() {
        HeatNetwork x = chainOfTen();
        x.addPipe(9, 0, 1, 1);
        return x;
    }
}
