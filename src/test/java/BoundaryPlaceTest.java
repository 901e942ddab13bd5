/** The boundaries of settings, nodes, pipes and stations: sentence by sentence, worked out by hand. */
public final class BoundaryPlaceTest extends ByHand {
    private static final int[] LEAST = {600, 0, -300, 0, 1, 0, 0};
    private static final int[] GREATEST = {1200, 200, 300, 99, 999999999, 999, 99};
    private static final int[] FIRST = {900, 100, 0, 10, 50000000, 100, 5};

    private BoundaryPlaceTest() {
    }

    /** Values that are not from least to greatest, some of which become such ones when their upper bits are lost. */
    private static int[] outside(int least, int greatest) {
        return new int[] {least - 1, greatest + 1, FAR, FAR_BELOW, FAR_BELOW + least, FAR - 65535 + least};
    }

    // ---- Numbers and calls

    private static void lastCall() {
        HeatNetwork x = oneStation();
        for (int i = 3; i < 512; i++) {
            x.hours(24);
        }
        due("call 512, the true heat of 509 days", x.meter(1, 1), 509 * 24 * 1812);
        HeatNetwork y = new HeatNetwork();
        for (int i = 1; i < 512; i++) {
            y.setSetting(5, i);
        }
        due("call 512, undo() behind 511 changes", y.undo(), 7);
        HeatNetwork z = oneStation();
        for (int i = 3; i < 510; i++) {
            z.addPipe(0, 2, 1, 1);
            z.removePipe(1);
            i++;
        }
        due("call 511", z.flow(0), 4);
        thrown("call 512", INDEX, () -> z.flow(1));
    }

    private static void nothingThere() {
        HeatNetwork x = new HeatNetwork();
        due("count(0)", x.count(0), 0);
        due("count(1)", x.count(1), 0);
        thrown("pipe(0, 0)", INDEX, () -> x.pipe(0, 0));
        thrown("removePipe(0)", INDEX, () -> x.removePipe(0));
        for (int i = 0; i < 10; i++) {
            int node = i;
            thrown("station(" + i + ", 0)", ELEMENT, () -> x.station(node, 0));
            thrown("trial(" + i + ", 300)", ELEMENT, () -> x.trial(node, 300));
            due("part(" + i + ")", x.part(i), 1 << i);
            due("isConnected(" + i + ")", x.isConnected(i), i == 0);
            due("temperature(" + i + ", false)", x.temperature(i, false), i == 0 ? 900 : 100);
            due("temperature(" + i + ", true)", x.temperature(i, true), 100);
            due("rounding(" + i + ")", x.rounding(i), 0);
        }
        for (int what = 0; what < 8; what++) {
            due("account(" + what + ")", x.account(what), 0);
        }
        due("distance(0)", x.distance(0), 0);
        due("head(0)", x.head(0), 0);
        due("neededHead()", x.neededHead(), 0);
        due("rounds()", x.rounds(), 2);
        due("returnDegrees()", x.returnDegrees(), 10.0f);
        due("faultPosition()", x.faultPosition(), -1);
        thrown("distance(1)", ELEMENT, () -> x.distance(1));
        thrown("head(1)", ELEMENT, () -> x.head(1));
        thrown("loop(0)", ELEMENT, () -> x.loop(0));
        thrown("imbalance()", ELEMENT, () -> x.imbalance());
        thrown("suspect()", ELEMENT, () -> x.suspect());
        thrown("efficiency()", ARITHMETIC, () -> x.efficiency());
        thrown("refusal()", ELEMENT, () -> x.refusal());
        thrown("run()", ARGUMENT, () -> x.run());
        thrown("undo()", STATE, () -> x.undo());
        thrown("restore()", STATE, () -> x.restore());
        due("hours(24)", x.hours(24), 24);
        due("an object of its own", new HeatNetwork().account(4), 0);
    }

    private static void roundedDown() {
        HeatNetwork x = drip(0, 200);
        // a length of 2 and a loss of 50 halve the difference to the ground of a flow of 1
        x.addPipe(0, 1, 2, 1);
        x.setSetting(3, 50);
        due("100 + 800 / 2", x.temperature(1, false), 500);
        x.setSetting(0, 901);
        due("100 + 801 / 2", x.temperature(1, false), 500);
        x.setSetting(0, 902);
        due("100 + 802 / 2", x.temperature(1, false), 501);
        due("back: 100 + 100 / 2", x.temperature(0, true), 150);
        x.setReturn(1, 201);
        due("back: 100 + 101 / 2", x.temperature(0, true), 150);
        x.setReturn(1, 202);
        due("back: 100 + 102 / 2", x.temperature(0, true), 151);
    }

    /** A station at node 1 that draws 1 whatever the temperature is, if it is 50 above its return temperature. */
    private static HeatNetwork drip(int loss, int returnTemperature) {
        HeatNetwork x = new HeatNetwork();
        x.setSetting(3, loss);
        x.setSetting(2, 199);
        x.addStation(1, 1, returnTemperature, 999);
        return x;
    }

    // ---- Settings

    private static void range(int setting) {
        int least = LEAST[setting];
        int greatest = GREATEST[setting];
        String name = "setSetting(" + setting + ", ";
        HeatNetwork x = new HeatNetwork();
        due("at first", x.setting(setting), FIRST[setting]);
        due(name + least + ")", x.setSetting(setting, least), FIRST[setting]);
        due(name + least + ") is kept", x.setting(setting), least);
        due(name + greatest + ")", x.setSetting(setting, greatest), least);
        due(name + greatest + ") is kept", x.setting(setting), greatest);
        for (int value : outside(least, greatest)) {
            thrown(name + value + ")", ARGUMENT, () -> x.setSetting(setting, value));
            due("still", x.setting(setting), greatest);
        }
        due("no change but two", x.count(4), 2);
        thrown("no reason is kept", ELEMENT, () -> x.refusal());
    }

    private static void settings() {
        Sentence.says("Settings", "Setting 0 is the supply temperature, 600 to 1200, 900 at first", () -> range(0));
        Sentence.says("Settings", "1 the ground temperature, 0 to 200, 100 at first", () -> range(1));
        Sentence.says("Settings", "2 the outdoor temperature, -300 to 300, 0 at first", () -> range(2));
        Sentence.says("Settings", "3 the loss, 0 to 99, 10 at first", () -> range(3));
        Sentence.says("Settings", "4 the greatest head of the pump, 1 to 999999999, 50000000 at first", () -> range(4));
        Sentence.says("Settings", "5 the price, 0 to 999, 100 at first", () -> range(5));
        Sentence.says("Settings", "6 the rate, 0 to 99, 5 at first", () -> range(6));
        Sentence.says("Promise 2", "Throws IllegalArgumentException if the value is out of range", () -> {
            HeatNetwork x = new HeatNetwork();
            for (int i = 0; i < 7; i++) {
                int setting = i;
                thrown("below setting " + i, ARGUMENT, () -> x.setSetting(setting, LEAST[setting] - 1));
                thrown("above setting " + i, ARGUMENT, () -> x.setSetting(setting, GREATEST[setting] + 1));
                due("setting(" + i + ")", x.setting(i), FIRST[i]);
                due("least", x.setSetting(i, LEAST[i]), FIRST[i]);
                due("greatest", x.setSetting(i, GREATEST[i]), LEAST[i]);
            }
        });
        Sentence.says("Promise 2", "Returns the value before.", () -> {
            HeatNetwork x = new HeatNetwork();
            due("the same value again", x.setSetting(0, 900), 900);
            due("another", x.setSetting(0, 901), 900);
            due("and another", x.setSetting(0, 600), 901);
        });
        Sentence.says("Promise 2", "Throws IndexOutOfBoundsException if there is no such setting", () -> {
            HeatNetwork x = new HeatNetwork();
            for (int setting : outside(0, 6)) {
                thrown("setSetting(" + setting + ", 1)", INDEX, () -> x.setSetting(setting, 1));
                thrown("and the value is out of range too", INDEX, () -> x.setSetting(setting, FAR));
                thrown("and the value is out of range too", INDEX, () -> x.setSetting(setting, FAR_BELOW));
            }
            due("setSetting(6, 1)", x.setSetting(6, 1), 5);
            due("setSetting(0, 600)", x.setSetting(0, 600), 900);
        });
        Sentence.says("Promise 3", "Throws IndexOutOfBoundsException if there is no such setting", () -> {
            HeatNetwork x = new HeatNetwork();
            for (int setting : outside(0, 6)) {
                thrown("setting(" + setting + ")", INDEX, () -> x.setting(setting));
            }
            due("setting(0)", x.setting(0), 900);
            due("setting(6)", x.setting(6), 5);
        });
    }

    // ---- Nodes

    private static void tenNodes() {
        HeatNetwork x = chainOfTen();
        x.addStation(9, 1, 200, 1);
        for (int node = 0; node < 10; node++) {
            due("temperature", x.temperature(node, false), 900);
            due("rounding", x.rounding(node), 0);
            due("head", x.head(node), node);
            due("distance", x.distance(node), node);
            due("part", x.part(node), 1023);
            due("isConnected", x.isConnected(node), true);
        }
        due("trial(9, 300)", x.trial(9, 300), 600);
        due("bestReturn(9)", x.bestReturn(9), 200);
        due("setReturn(9, 300)", x.setReturn(9, 300), 200);
        due("setMeter(9, 0, 0)", x.setMeter(9, 0, 0), 0);
        due("meter(9, 3)", x.meter(9, 3), 600);
        for (int node : NO_NODES) {
            thrown("temperature of " + node, INDEX, () -> x.temperature(node, false));
            thrown("return temperature of " + node, INDEX, () -> x.temperature(node, true));
            thrown("rounding of " + node, INDEX, () -> x.rounding(node));
            thrown("part of " + node, INDEX, () -> x.part(node));
            thrown("isConnected of " + node, INDEX, () -> x.isConnected(node));
            thrown("head of " + node, ELEMENT, () -> x.head(node));
            thrown("distance of " + node, ELEMENT, () -> x.distance(node));
        }
        due("the plant is the node 0", x.distance(0), 0);
        HeatNetwork y = new HeatNetwork();
        y.addPipe(8, 9, 1, 1);
        due("part(0) alone", y.part(0), 1);
        due("part(9)", y.part(9), 768);
        due("the plant alone has the supply temperature", y.temperature(0, false), 900);
        due("and no other", y.temperature(1, false), 100);
    }

    // ---- Pipes

    private static void tenPipes() {
        HeatNetwork x = chainOfTen();
        due("count(0) of nine", x.count(0), 9);
        due("the tenth", x.addPipe(9, 0, 1, 1), 9);
        due("count(0)", x.count(0), 10);
        due("pipe(0, 0)", x.pipe(0, 0), 0);
        due("pipe(9, 0)", x.pipe(9, 0), 9);
        refused("the eleventh", 4, x, () -> x.addPipe(0, 5, 1, 1));
        due("count(0) still", x.count(0), 10);
        due("removePipe(4)", x.removePipe(4), 9);
        due("there is a place again", x.addPipe(0, 5, 1, 1), 9);
        refused("and no more", 4, x, () -> x.addPipe(0, 6, 1, 1));
        HeatNetwork y = new HeatNetwork();
        thrown("no pipe is there at first", INDEX, () -> y.pipe(0, 0));
        due("the first", y.addPipe(3, 2, 1, 1), 0);
        HeatNetwork z = new HeatNetwork();
        for (int from = 0; from < 10; from += 5) {
            for (int i = 0; i < 5; i++) {
                due("two loops of five", z.addPipe(from + i, from + (i + 1) % 5, 1, 1), from + i);
            }
        }
        refused("the eleventh beside two loops", 4, z, () -> z.addPipe(0, 5, 1, 1));
    }

    private static void differentNodes() {
        HeatNetwork x = new HeatNetwork();
        for (int node = 0; node < 10; node++) {
            int both = node;
            refused("addPipe(" + node + ", " + node + ")", 3, x, () -> x.addPipe(both, both, 1, 1));
        }
        due("addPipe(0, 9)", x.addPipe(0, 9, 1, 1), 0);
        due("addPipe(9, 8)", x.addPipe(9, 8, 1, 1), 1);
        int[][] ends = {{0, 9}, {9, 8}};
        for (int[] pipe : ends) {
            refused("the same again", 3, x, () -> x.addPipe(pipe[0], pipe[1], 2, 2));
            refused("the same the other way", 3, x, () -> x.addPipe(pipe[1], pipe[0], 2, 2));
        }
        due("between ends of different pipes", x.addPipe(0, 8, 1, 1), 2);
        x.removePipe(1);
        due("the same when it is gone", x.addPipe(8, 9, 1, 1), 2);
        refused("the one that has another number now", 3, x, () -> x.addPipe(8, 0, 1, 1));
    }

    private static void lengths() {
        HeatNetwork x = new HeatNetwork();
        due("a length of 1", x.addPipe(0, 1, 1, 5), 0);
        due("a length of 99", x.addPipe(1, 2, 99, 5), 1);
        due("pipe(0, 2)", x.pipe(0, 2), 1);
        due("pipe(1, 2)", x.pipe(1, 2), 99);
        for (int length : outside(1, 99)) {
            refused("a length of " + length, 2, x, () -> x.addPipe(2, 3, length, 5));
        }
        due("a roughness of 1", x.addPipe(2, 3, 50, 1), 2);
        due("a roughness of 9", x.addPipe(3, 4, 50, 9), 3);
        due("pipe(2, 3)", x.pipe(2, 3), 1);
        due("pipe(3, 3)", x.pipe(3, 3), 9);
        for (int roughness : outside(1, 9)) {
            refused("a roughness of " + roughness, 2, x, () -> x.addPipe(4, 5, 50, roughness));
        }
        due("both at their least", x.addPipe(4, 5, 1, 1), 4);
        due("both at their greatest", x.addPipe(5, 6, 99, 9), 5);
    }

    private static void resistances() {
        HeatNetwork x = drip(0, 200);
        x.addPipe(0, 1, 1, 1);
        due("1 * 1, with a flow of 1", x.head(1), 1);
        x.removePipe(0);
        x.addPipe(0, 1, 99, 9);
        due("99 * 9, with a flow of 1", x.head(1), 891);
        x.removePipe(0);
        x.addPipe(0, 1, 99, 1);
        due("99 * 1", x.head(1), 99);
        x.removePipe(0);
        x.addPipe(0, 1, 1, 9);
        due("1 * 9", x.head(1), 9);
    }

    private static void oneLoop() {
        HeatNetwork x = new HeatNetwork();
        x.addPipe(1, 2, 1, 1);
        x.addPipe(2, 3, 1, 1);
        due("a loop of three, the shortest", x.addPipe(3, 1, 1, 1), 2);
        due("a node more at the loop", x.addPipe(3, 4, 1, 1), 3);
        due("and one at that node", x.addPipe(4, 5, 1, 1), 4);
        refused("a second loop along the first", 5, x, () -> x.addPipe(1, 4, 1, 1));
        refused("a second loop at a side", 5, x, () -> x.addPipe(3, 5, 1, 1));
        due("a part with a loop and the plant alone", x.addPipe(5, 0, 1, 1), 5);
        refused("and the plant once more", 5, x, () -> x.addPipe(0, 1, 1, 1));
        x.removePipe(0);
        due("without its loop there can be another", x.addPipe(0, 1, 1, 1), 5);
        refused("but one only", 5, x, () -> x.addPipe(1, 2, 1, 1));
        HeatNetwork y = new HeatNetwork();
        int[][] threeLoops = {{1, 2}, {2, 3}, {3, 1}, {4, 5}, {5, 6}, {6, 4}, {7, 8}, {8, 9}, {9, 7}};
        for (int[] pipe : threeLoops) {
            y.addPipe(pipe[0], pipe[1], 1, 1);
        }
        due("each part has a loop of its own", y.count(0), 9);
        refused("no pipe joins two of them", 5, y, () -> y.addPipe(3, 4, 1, 1));
        refused("nor other two", 5, y, () -> y.addPipe(9, 1, 1, 1));
        due("the plant has no loop", y.count(3), 0);
        due("it can be joined with one", y.addPipe(9, 0, 1, 1), 9);
        due("and has its loop then", y.count(3), 3);
        HeatNetwork z = new HeatNetwork();
        z.addPipe(0, 1, 1, 1);
        z.addPipe(2, 3, 1, 1);
        due("two trees make a tree", z.addPipe(1, 2, 1, 1), 2);
        due("with no loop", z.count(3), 0);
        due("that may have one loop", z.addPipe(0, 3, 1, 1), 3);
        refused("and no second one, that shares a way", 5, z, () -> z.addPipe(0, 2, 1, 1));
        due("all nodes in one loop", fullOfPipes().count(3), 10);
    }

    private static void runPipes(HeatNetwork x, int... ends) {
        for (int i = 0; i < ends.length; i += 2) {
            x.addPipe(ends[i], ends[i + 1], 1, 1);
        }
    }

    private static void connected() {
        HeatNetwork x = new HeatNetwork();
        due("the plant alone", x.isConnected(0), true);
        due("no other", x.isConnected(9), false);
        HeatNetwork y = chainOfTen();
        due("the longest way", y.isConnected(9), true);
        due("distance(9)", y.distance(9), 9);
        y.removePipe(0);
        due("cut at the plant", y.isConnected(9), false);
        due("cut at the plant, near", y.isConnected(1), false);
        thrown("distance(1)", ELEMENT, () -> y.distance(1));
        thrown("head(1)", ELEMENT, () -> y.head(1));
        due("only the plant is", y.count(2), 1);
        y.addPipe(9, 0, 1, 1);
        due("from the other end, against the order of its nodes", y.distance(1), 9);
        due("all are", y.count(2), 10);
        HeatNetwork z = fullOfPipes();
        due("half way round", z.distance(5), 5);
        due("the shorter way round", z.distance(6), 4);
        z.removePipe(9);
        due("a loop that is cut hangs together", z.count(2), 10);
        due("the only way", z.distance(6), 6);
        due("the loop is gone", z.count(3), 0);
        thrown("loop(0)", ELEMENT, () -> z.loop(0));
        due("what is left of it is no part of a loop", z.pipe(0, 4), 0);
    }

    private static void pipes() {
        Sentence.says("Pipes", "There are 10 nodes, numbered from 0; node 0 is the plant.", () -> tenNodes());
        Sentence.says("Pipes", "At most 10 pipes are kept, numbered from 0.", () -> tenPipes());
        Sentence.says("Pipes", "A pipe lies between two different nodes, at most one between the same two",
                () -> differentNodes());
        Sentence.says("Pipes", "has a length from 1 to 99 and a roughness from 1 to 9.", () -> lengths());
        Sentence.says("Pipes", "The resistance of a pipe is the product of both.", () -> resistances());
        Sentence.says("Pipes", "Pipes never form more than one loop: the number of pipes in each part of the network "
                + "that hangs together is at most the number of its nodes, and all other parts have one pipe less than "
                + "nodes.", () -> oneLoop());
        Sentence.says("Details", "A pipe between two parts that both have a loop is refused for the reason 5.", () -> {
            HeatNetwork x = new HeatNetwork();
            runPipes(x, 0, 1, 1, 2, 2, 0, 7, 8, 8, 9, 9, 7);
            refused("from a loop to a loop", 5, x, () -> x.addPipe(1, 8, 1, 1));
            runPipes(x, 2, 3, 4, 7);
            refused("from what is behind one to what is behind the other", 5, x, () -> x.addPipe(3, 4, 1, 1));
            due("from a loop to a node alone", x.addPipe(0, 5, 1, 1), 8);
            due("from it to another one", x.addPipe(5, 6, 1, 1), 9);
            x.removePipe(2);
            due("when one of the loops is cut", x.addPipe(6, 4, 1, 1), 9);
            due("all are connected", x.count(2), 10);
            due("the loop that is left", x.count(3), 3);
        });
        Sentence.says("Pipes", "A node is connected if a way along pipes leads from it to the plant.",
                () -> connected());
    }

    // ---- Promises 4 and 5, and what is told of pipes

    private static void pipeNumbers() {
        HeatNetwork x = fullOfPipes();
        due("removePipe(0), the first of ten", x.removePipe(0), 9);
        due("the second is the first now", x.pipe(0, 0), 1);
        due("the tenth is the ninth now", x.pipe(8, 0), 9);
        thrown("pipe(9, 0)", INDEX, () -> x.pipe(9, 0));
        due("removePipe(8), the last", x.removePipe(8), 8);
        due("the first stays", x.pipe(0, 0), 1);
        due("the last is the one ahead of it", x.pipe(7, 1), 9);
        due("removePipe(3), in the middle", x.removePipe(3), 7);
        due("what is ahead of it stays", x.pipe(2, 1), 4);
        due("what is behind it moves up", x.pipe(3, 0), 5);
        for (int left = 6; left >= 0; left--) {
            due("removePipe(0) of all", x.removePipe(0), left);
        }
        thrown("removePipe(0) of none", INDEX, () -> x.removePipe(0));
        HeatNetwork y = fullOfPipes();
        due("removePipe(9) of ten", y.removePipe(9), 9);
        due("the ninth stays", y.pipe(8, 1), 9);
        HeatNetwork four = new HeatNetwork();
        for (int i = 0; i < 4; i++) {
            four.addPipe(i, i + 1, 10 + i, 1 + i);
        }
        four.removePipe(1);
        int[][] rows = {{0, 1, 10, 1, 0}, {2, 3, 12, 3, 0}, {3, 4, 13, 4, 0}};
        for (int pipe = 0; pipe < 3; pipe++) {
            for (int what = 0; what < 5; what++) {
                due("three of four, pipe(" + pipe + ", " + what + ")", four.pipe(pipe, what), rows[pipe][what]);
            }
        }
        HeatNetwork z = twoStations();
        z.removePipe(0);
        z.addPipe(0, 1, 2, 3);
        due("flow of the pipe that is number 0 now", z.flow(0), -5);
        due("flow of the pipe that is number 1 now", z.flow(1), 7);
    }

    private static void pipeIndexes() {
        String words = "Throws IndexOutOfBoundsException if there is no such pipe";
        HeatNetwork none = new HeatNetwork();
        HeatNetwork two = twoStations();
        HeatNetwork ten = fullOfPipes();
        int[] bad = {-1, 2, 10, 65536, FAR, FAR_BELOW, FAR_BELOW + 1};
        Sentence.says("Promise 5", words, () -> {
            for (int pipe : bad) {
                thrown("removePipe(" + pipe + ")", INDEX, () -> two.removePipe(pipe));
            }
            thrown("removePipe(10) of ten", INDEX, () -> ten.removePipe(10));
            thrown("removePipe(0) of none", INDEX, () -> none.removePipe(0));
            due("still two", two.count(0), 2);
            due("still ten", ten.count(0), 10);
        });
        Sentence.says("Promise 15", words, () -> {
            for (int pipe : bad) {
                for (int what = -1; what < 6; what++) {
                    int asked = what;
                    thrown("pipe(" + pipe + ", " + what + ")", INDEX, () -> two.pipe(pipe, asked));
                }
            }
            thrown("pipe(10, 0) of ten", INDEX, () -> ten.pipe(10, 0));
            due("pipe(9, 1) of ten", ten.pipe(9, 1), 0);
            thrown("pipe(0, 0) of none", INDEX, () -> none.pipe(0, 0));
        });
        Sentence.says("Promise 18", words, () -> {
            for (int pipe : bad) {
                thrown("flow(" + pipe + ")", INDEX, () -> two.flow(pipe));
            }
            thrown("flow(10) of ten", INDEX, () -> ten.flow(10));
            thrown("flow(0) of none", INDEX, () -> none.flow(0));
            due("flow(1) of two", two.flow(1), -5);
            due("flow(9) of ten", ten.flow(9), 0);
        });
        Sentence.says("Promise 19", words, () -> {
            for (int pipe : bad) {
                thrown("direction(" + pipe + ")", INDEX, () -> two.direction(pipe));
            }
            thrown("direction(10) of ten", INDEX, () -> ten.direction(10));
            thrown("direction(0) of none", INDEX, () -> none.direction(0));
            due("direction(1) of two", two.direction(1), '-');
            due("direction(9) of ten", ten.direction(9), '0');
        });
        Sentence.says("Promise 21", words, () -> {
            for (int pipe : bad) {
                thrown("loss(" + pipe + ")", INDEX, () -> two.loss(pipe));
            }
            thrown("loss(10) of ten", INDEX, () -> ten.loss(10));
            thrown("loss(0) of none", INDEX, () -> none.loss(0));
            due("loss(1) of two", two.loss(1), 0);
            due("loss(9) of ten", ten.loss(9), 0);
        });
    }

    private static void whatOfPipe() {
        HeatNetwork x = triangle();
        for (int what : outside(0, 4)) {
            thrown("pipe(0, " + what + ")", ARGUMENT, () -> x.pipe(0, what));
            thrown("pipe(3, " + what + ")", ARGUMENT, () -> x.pipe(3, what));
        }
        due("pipe(3, 0)", x.pipe(3, 0), 1);
        due("pipe(3, 4)", x.pipe(3, 4), 1);
    }

    private static void partOfLoop() {
        HeatNetwork x = triangle();
        int[] isPart = {0, 1, 1, 1};
        for (int pipe = 0; pipe < 4; pipe++) {
            due("pipe(" + pipe + ", 4)", x.pipe(pipe, 4), isPart[pipe]);
        }
        x.addPipe(3, 4, 1, 1);
        due("a pipe behind the loop", x.pipe(4, 4), 0);
        x.removePipe(0);
        due("the loop of another part", x.pipe(0, 4), 0);
        x.addPipe(4, 0, 1, 1);
        due("the loop of the part of the plant again", x.pipe(0, 4), 1);
        due("the way to it", x.pipe(4, 4), 0);
        x.removePipe(2);
        due("a loop that is cut", x.pipe(0, 4), 0);
        HeatNetwork y = fullOfPipes();
        for (int pipe = 0; pipe < 10; pipe++) {
            due("all ten are, " + pipe, y.pipe(pipe, 4), 1);
        }
    }

    private static void refusedPipes() {
        HeatNetwork x = fullOfPipes();
        refused("1, not 2: node 10, length 0", 1, x, () -> x.addPipe(0, 10, 0, 1));
        refused("1, not 2: node -1, roughness 10", 1, x, () -> x.addPipe(-1, 0, 1, 10));
        refused("1, not 3: the node 10 twice", 1, x, () -> x.addPipe(10, 10, 1, 1));
        refused("1, not 4: ten pipes", 1, x, () -> x.addPipe(0, 10, 1, 1));
        refused("1, not 5: a loop is there", 1, x, () -> x.addPipe(10, 5, 1, 1));
        refused("2, not 3: the same node, length 0", 2, x, () -> x.addPipe(5, 5, 0, 1));
        refused("2, not 3: the same pipe, length 100", 2, x, () -> x.addPipe(0, 1, 100, 1));
        refused("2, not 3: the same pipe, roughness 0", 2, x, () -> x.addPipe(1, 0, 1, 0));
        refused("2, not 4 or 5: roughness 10", 2, x, () -> x.addPipe(0, 5, 1, 10));
        refused("3, not 4: the same node", 3, x, () -> x.addPipe(5, 5, 1, 1));
        refused("3, not 4 or 5: the same pipe", 3, x, () -> x.addPipe(0, 1, 1, 1));
        refused("4, not 5: a second loop", 4, x, () -> x.addPipe(0, 5, 1, 1));
        x.removePipe(9);
        x.removePipe(8);
        due("a loop of eight and a place", x.addPipe(7, 0, 1, 1), 8);
        refused("5: a second loop, with a place left", 5, x, () -> x.addPipe(0, 5, 1, 1));
        refused("2, not 5: length 0", 2, x, () -> x.addPipe(0, 5, 0, 1));
        refused("3, not 5: the same pipe", 3, x, () -> x.addPipe(0, 1, 1, 1));
        due("the last place", x.addPipe(8, 9, 1, 1), 9);
        refused("4, not 5: none is left", 4, x, () -> x.addPipe(0, 5, 1, 1));
        for (int node : NO_NODES) {
            refused("addPipe(" + node + ", 1, ..)", 1, x, () -> x.addPipe(node, 1, 1, 1));
            refused("addPipe(1, " + node + ", ..)", 1, x, () -> x.addPipe(1, node, 1, 1));
            refused("addPipe(" + node + " twice, ..)", 1, x, () -> x.addPipe(node, node, 0, 0));
        }
        due("nothing came of them", x.count(0), 10);
    }

    private static void pipePromises() {
        Sentence.says("Promise 4", "Returns the number of the pipe.", () -> {
            HeatNetwork x = new HeatNetwork();
            for (int node = 1; node < 10; node++) {
                due("from the first on", x.addPipe(node, node - 1, 1, 1), node - 1);
            }
            due("the tenth", x.addPipe(0, 9, 1, 1), 9);
            x.removePipe(0);
            due("the last number again", x.addPipe(1, 0, 1, 1), 9);
        });
        Sentence.says("Promise 4", "Throws UnsupportedOperationException if it is refused for one of the reasons 1 to "
                + "5; the reason is kept for refusal", () -> refusedPipes());
        Sentence.says("Promise 5", "Returns the number of pipes that remain.", () -> pipeNumbers());
        Sentence.says("Promise 5", "The numbers of later pipes decrease by 1.", () -> pipeNumbers());
        pipeIndexes();
        Sentence.says("Promise 15", "Throws IllegalArgumentException if what is not from 0 to 4", () -> whatOfPipe());
        Sentence.says("Promise 15", "4 for 1 if it is part of the loop of the part of the plant, otherwise 0",
                () -> partOfLoop());
    }

    // ---- Stations

    private static void nineStations() {
        HeatNetwork x = new HeatNetwork();
        for (int node = 1; node < 10; node++) {
            due("addStation(" + node + ", ..)", x.addStation(node, 1, 200, 1), node);
        }
        due("count(1)", x.count(1), 9);
        refused("none at the plant", 1, x, () -> x.addStation(0, 1, 200, 1));
        for (int node = 1; node < 10; node++) {
            int again = node;
            refused("one already", 6, x, () -> x.addStation(again, 1, 200, 1));
        }
        for (int left = 8; left >= 0; left--) {
            due("removeStation(" + (left + 1) + ")", x.removeStation(left + 1), left);
        }
        refused("none is left", 6, x, () -> x.removeStation(1));
    }

    private static void sizes() {
        HeatNetwork x = new HeatNetwork();
        due("all at their least", x.addStation(1, 1, 200, 1), 1);
        due("all at their greatest", x.addStation(2, 99, 600, 999), 2);
        int[] least = {1, 200, 1};
        int[] greatest = {99, 600, 999};
        for (int what = 0; what < 3; what++) {
            due("station(1, " + what + ")", x.station(1, what), least[what]);
            due("station(2, " + what + ")", x.station(2, what), greatest[what]);
        }
        for (int size : outside(1, 99)) {
            refused("a size of " + size, 2, x, () -> x.addStation(3, size, 300, 9));
        }
        for (int temperature : outside(200, 600)) {
            refused("a return temperature of " + temperature, 2, x, () -> x.addStation(3, 9, temperature, 9));
        }
        for (int flow : outside(1, 999)) {
            refused("a greatest flow of " + flow, 2, x, () -> x.addStation(3, 9, 300, flow));
        }
        due("none of these is there", x.count(1), 2);
        due("each at its least or greatest", x.addStation(3, 99, 200, 999), 3);
    }

    private static void wantedHeat() {
        HeatNetwork x = new HeatNetwork();
        x.addStation(1, 1, 300, 9);
        x.addStation(2, 99, 300, 9);
        int[][] rows = {{300, 0, 0}, {201, 0, 0}, {200, 0, 0}, {199, 1, 99}, {198, 2, 198}, {0, 200, 19800},
            {-1, 201, 19899}, {-300, 500, 49500}};
        for (int[] row : rows) {
            x.setSetting(2, row[0]);
            due("wanted at " + row[0] + ", size 1", x.station(1, 5), row[1]);
            due("wanted at " + row[0] + ", size 99", x.station(2, 5), row[2]);
        }
    }

    private static void refusedStations() {
        HeatNetwork x = new HeatNetwork();
        x.addStation(9, 5, 300, 9);
        for (int node : NO_NODES) {
            refused("addStation(" + node + ", ..)", 1, x, () -> x.addStation(node, 5, 300, 9));
            refused("1, not 2", 1, x, () -> x.addStation(node, 0, 300, 9));
        }
        refused("1 at the plant", 1, x, () -> x.addStation(0, 5, 300, 9));
        refused("1, not 2: size 100 at the plant", 1, x, () -> x.addStation(0, 100, 300, 9));
        refused("1, not 2: return 199 at the plant", 1, x, () -> x.addStation(0, 5, 199, 9));
        refused("1, not 2: flow 0 at the plant", 1, x, () -> x.addStation(0, 5, 300, 0));
        refused("2, not 6: size 0", 2, x, () -> x.addStation(9, 0, 300, 9));
        refused("2, not 6: return 601", 2, x, () -> x.addStation(9, 5, 601, 9));
        refused("2, not 6: flow 1000", 2, x, () -> x.addStation(9, 5, 300, 1000));
        refused("6", 6, x, () -> x.addStation(9, 5, 300, 9));
        due("the station is as it was", x.station(9, 0), 5);
        x.removeStation(9);
        due("there is a place again", x.addStation(9, 6, 300, 9), 1);
    }

    private static void refusedRemovals() {
        HeatNetwork x = new HeatNetwork();
        refused("6: no station at all", 6, x, () -> x.removeStation(1));
        x.addStation(1, 5, 300, 9);
        for (int node : NO_NODES) {
            refused("removeStation(" + node + ")", 1, x, () -> x.removeStation(node));
        }
        refused("1, not 6: the plant, which has none", 1, x, () -> x.removeStation(0));
        refused("6: the first node without", 6, x, () -> x.removeStation(2));
        refused("6: the last node without", 6, x, () -> x.removeStation(9));
        due("the only one", x.removeStation(1), 0);
        refused("6: it is gone", 6, x, () -> x.removeStation(1));
    }

    private static void newMeter() {
        HeatNetwork x = oneStation();
        x.setMeter(1, 2, 2000);
        x.hours(24);
        x.removeStation(1);
        x.addStation(1, 9, 300, 9);
        int[] whats = {3, 4};
        int[] first = {0, 1000};
        for (int i = 0; i < 2; i++) {
            due("station(1, " + whats[i] + ")", x.station(1, whats[i]), first[i]);
        }
        for (int what = 0; what < 3; what++) {
            due("meter(1, " + what + ")", x.meter(1, what), 0);
        }
        due("its first hour", x.hours(1), 25);
        due("meter(1, 0)", x.meter(1, 0), 1812);
        due("meter(1, 1), since it was made", x.meter(1, 1), 1812);
        due("meter(1, 2)", x.meter(1, 2), 90);
    }

    private static void stations() {
        Sentence.says("Stations", "At each node but the plant there can be a station.", () -> nineStations());
        Sentence.says("Stations", "It has a size from 1 to 99, a return temperature from 200 to 600, and a greatest "
                + "flow from 1 to 999.", () -> sizes());
        Sentence.says("Stations", "The heat that it wants is its size times the number of tenths of a degree by which "
                + "the outdoor temperature is below 200, 0 if it is not below.", () -> wantedHeat());
        Sentence.says("Promise 6", "Makes a station, with the meter at 0 and without a fault.", () -> newMeter());
        Sentence.says("Promise 6", "Returns the number of stations.", () -> nineStations());
        Sentence.says("Promise 7", "Returns the number of stations that remain.", () -> nineStations());
        Sentence.says("Promise 6", "Throws UnsupportedOperationException if it is refused for the reason 1, 2 or 6; "
                + "the reason is kept for refusal", () -> refusedStations());
        Sentence.says("Promise 7", "Throws UnsupportedOperationException if it is refused for the reason 1 or 6; the "
                + "reason is kept for refusal", () -> refusedRemovals());
        Sentence.says("Promise 7", "Removes a station with its meter and its bills.", () -> {
            HeatNetwork x = oneStation();
            x.hours(1);
            x.removeStation(1);
            for (int what = 0; what < 4; what++) {
                int asked = what;
                thrown("meter(1, " + what + ")", ELEMENT, () -> x.meter(1, asked));
            }
            thrown("station(1, 0)", ELEMENT, () -> x.station(1, 0));
            thrown("suspect()", ELEMENT, () -> x.suspect());
        });
    }

    // ---- Promises 8, 9, 16, 17, 32 and 33: what they refuse

    /** A station at node 9 alone: the call on it answers, and on no other node, whatever else is out of range. */
    private static void onlyAt9(String name, NodeCall call) {
        HeatNetwork x = new HeatNetwork();
        x.addStation(9, 5, 300, 9);
        for (int node = 0; node < 9; node++) {
            int none = node;
            thrown(name + " at " + node, ELEMENT, () -> call.at(x, none));
        }
        for (int node : NO_NODES) {
            thrown(name + " at " + node, ELEMENT, () -> call.at(x, node));
        }
        thrown("no reason is kept", ELEMENT, () -> x.refusal());
        call.at(x, 9);
    }

    interface NodeCall {
        Object at(HeatNetwork x, int node);
    }

    /** The station is looked for first, the other arguments then. */
    private static void noStationFirst(String name, NodeCall call) {
        HeatNetwork x = new HeatNetwork();
        x.addStation(9, 5, 300, 9);
        int[] none = {0, 1, 8, 10, -1, FAR, FAR_BELOW};
        for (int node : none) {
            thrown(name + " at " + node, ELEMENT, () -> call.at(x, node));
        }
        thrown(name + " at 9", ARGUMENT, () -> call.at(x, 9));
    }

    private static void stationPromises() {
        String none = "Throws NoSuchElementException if there is no station at the node, or no such node";
        String far = "Throws IllegalArgumentException if the temperature is out of range";
        Sentence.says("Promise 8", none, () -> {
            onlyAt9("setReturn", (x, node) -> x.setReturn(node, 400));
            noStationFirst("setReturn to 199", (x, node) -> x.setReturn(node, 199));
            noStationFirst("setReturn to 601", (x, node) -> x.setReturn(node, 601));
        });
        Sentence.says("Promise 8", far, () -> {
            HeatNetwork x = oneStation();
            due("setReturn(1, 200)", x.setReturn(1, 200), 300);
            due("setReturn(1, 600)", x.setReturn(1, 600), 200);
            for (int temperature : outside(200, 600)) {
                thrown("setReturn(1, " + temperature + ")", ARGUMENT, () -> x.setReturn(1, temperature));
            }
            due("setReturn(1, 600) again", x.setReturn(1, 600), 600);
        });
        Sentence.says("Promise 8", "Returns the return temperature before.", () -> {
            HeatNetwork x = oneStation();
            due("the same again", x.setReturn(1, 300), 300);
            due("another", x.setReturn(1, 200), 300);
            due("and another", x.setReturn(1, 600), 200);
        });
        Sentence.says("Promise 9", "kept also for the faults 0 and 1", () -> {
            HeatNetwork x = oneStation();
            due("1000 at first", x.station(1, 4), 1000);
            int[][] rows = {{0, 0, 0}, {0, 2000, 0}, {1, 0, 0}, {1, 2000, 1}, {2, 0, 1}, {2, 2000, 2}, {0, 1, 2}};
            for (int[] row : rows) {
                due("the fault before " + row[0], x.setMeter(1, row[0], row[1]), row[2]);
                due("the fault " + row[0], x.station(1, 3), row[0]);
                due("thousandths with the fault " + row[0], x.station(1, 4), row[1]);
            }
        });
        Sentence.says("Meters", "It has a fault: 0 none, as at first, 1 it stands still, or 2 it counts only some "
                + "thousandths of the heat, from 0 to 2000.", () -> meterRanges());
        Sentence.says("Promise 9", none, () -> {
            onlyAt9("setMeter", (x, node) -> x.setMeter(node, 1, 500));
            noStationFirst("setMeter to 3", (x, node) -> x.setMeter(node, 3, 500));
            noStationFirst("setMeter to 2001", (x, node) -> x.setMeter(node, 1, 2001));
        });
        Sentence.says("Promise 9", "Throws IllegalArgumentException if the fault or the thousandths are out of range",
                () -> meterRanges());
        Sentence.says("Promise 16", none, () -> {
            onlyAt9("station", (x, node) -> x.station(node, 0));
            noStationFirst("station with 8", (x, node) -> x.station(node, 8));
            noStationFirst("station with -1", (x, node) -> x.station(node, -1));
        });
        Sentence.says("Promise 16", "Throws IllegalArgumentException if what is not from 0 to 7", () -> {
            HeatNetwork x = oneStation();
            for (int what : outside(0, 7)) {
                thrown("station(1, " + what + ")", ARGUMENT, () -> x.station(1, what));
            }
            due("station(1, 0)", x.station(1, 0), 9);
            due("station(1, 7)", x.station(1, 7), 50);
        });
        Sentence.says("Promise 17", none, () -> {
            onlyAt9("meter", (x, node) -> x.meter(node, 0));
            noStationFirst("meter with 4", (x, node) -> x.meter(node, 4));
            noStationFirst("meter with -1", (x, node) -> x.meter(node, -1));
        });
        Sentence.says("Promise 17", "Throws IllegalArgumentException if what is not from 0 to 3", () -> {
            HeatNetwork x = oneStation();
            for (int what : outside(0, 3)) {
                thrown("meter(1, " + what + ")", ARGUMENT, () -> x.meter(1, what));
            }
            due("meter(1, 0)", x.meter(1, 0), 0);
            due("meter(1, 3)", x.meter(1, 3), 1812);
        });
        Sentence.says("Promise 32", none, () -> {
            onlyAt9("trial", (x, node) -> x.trial(node, 400));
            noStationFirst("trial of 199", (x, node) -> x.trial(node, 199));
            noStationFirst("trial of 601", (x, node) -> x.trial(node, 601));
        });
        Sentence.says("Promise 32", far, () -> {
            HeatNetwork x = twoStations();
            for (int temperature : outside(200, 600)) {
                thrown("trial(1, " + temperature + ")", ARGUMENT, () -> x.trial(1, temperature));
            }
            // 1200 / 700 is 2, 1200 / 300 is 4, beside 1800 / 449, which is 5
            due("trial(1, 200): 2 * 700 + 5 * 449 and 2 left", x.trial(1, 200), 7 * (900 - 379));
            due("trial(1, 600): 4 * 300 + 5 * 449 and 2 left", x.trial(1, 600), 9 * (900 - 517));
        });
        Sentence.says("Promise 33", none, () -> onlyAt9("bestReturn", (x, node) -> x.bestReturn(node)));
    }

    private static void meterRanges() {
        HeatNetwork x = oneStation();
        due("setMeter(1, 2, 2000)", x.setMeter(1, 2, 2000), 0);
        due("setMeter(1, 0, 0)", x.setMeter(1, 0, 0), 2);
        due("setMeter(1, 2, 0)", x.setMeter(1, 2, 0), 0);
        for (int fault : outside(0, 2)) {
            thrown("setMeter(1, " + fault + ", 5)", ARGUMENT, () -> x.setMeter(1, fault, 5));
        }
        for (int fault = 0; fault < 3; fault++) {
            int right = fault;
            for (int thousandths : outside(0, 2000)) {
                thrown("setMeter(1, " + fault + ", " + thousandths + ")", ARGUMENT,
                        () -> x.setMeter(1, right, thousandths));
            }
        }
        due("the fault is as it was", x.station(1, 3), 2);
        due("the thousandths are as they were", x.station(1, 4), 0);
    }

    // ---- Promises 27, 29, 34 and 37

    private static void loopIndexes() {
        HeatNetwork x = triangle();
        due("loop(0)", x.loop(0), 1);
        due("loop(2)", x.loop(2), 3);
        for (int index : outside(0, 2)) {
            thrown("loop(" + index + ")", ELEMENT, () -> x.loop(index));
        }
        HeatNetwork y = fullOfPipes();
        due("loop(9) of ten", y.loop(9), 9);
        for (int index : outside(0, 9)) {
            thrown("loop(" + index + ") of ten", ELEMENT, () -> y.loop(index));
        }
        HeatNetwork z = chainOfTen();
        thrown("loop(0) without a loop", ELEMENT, () -> z.loop(0));
        thrown("loop(-1) without a loop", ELEMENT, () -> z.loop(-1));
        x.removePipe(0);
        thrown("loop(0) of another part", ELEMENT, () -> x.loop(0));
    }

    private static void parts() {
        HeatNetwork x = new HeatNetwork();
        for (int node = 0; node < 10; node++) {
            due("part(" + node + ") alone", x.part(node), 1 << node);
        }
        HeatNetwork y = chainOfTen();
        due("part(0) of all", y.part(0), 1023);
        due("part(9) of all", y.part(9), 1023);
        y.removePipe(8);
        due("part(9) cut off", y.part(9), 512);
        due("part(0) without 9", y.part(0), 511);
        y.removePipe(3);
        due("part(3)", y.part(3), 15);
        due("part(8)", y.part(8), 496);
    }

    private static void whats() {
        Sentence.says("Promise 28", "Returns the least number of pipes from the plant to a node.", () -> {
            HeatNetwork x = fullOfPipes();
            int[] distances = {0, 1, 2, 3, 4, 5, 4, 3, 2, 1};
            for (int node = 0; node < 10; node++) {
                due("distance(" + node + ") in the loop of all", x.distance(node), distances[node]);
            }
            x.removePipe(0);
            for (int node = 1; node < 10; node++) {
                due("distance(" + node + ") the other way round", x.distance(node), 10 - node);
            }
        });
        Sentence.says("Promise 27", "Throws NoSuchElementException if there is no such node", () -> loopIndexes());
        Sentence.says("Promise 29", "Returns the set of its nodes, bit n for node n.", () -> parts());
        Sentence.says("Promise 34", "Throws IllegalArgumentException if what is not from 0 to 7", () -> {
            HeatNetwork x = oneStation();
            for (int what : outside(0, 7)) {
                thrown("account(" + what + ")", ARGUMENT, () -> x.account(what));
            }
            due("account(0)", x.account(0), 2548);
            due("account(7)", x.account(7), 0);
        });
        Sentence.says("Promise 37", "Throws IllegalArgumentException if what is not from 0 to 5", () -> {
            HeatNetwork x = oneStation();
            for (int what : outside(0, 5)) {
                thrown("count(" + what + ")", ARGUMENT, () -> x.count(what));
            }
            due("count(0)", x.count(0), 1);
            due("count(5)", x.count(5), 0);
        });
        Sentence.says("Promise 37", "0 for the pipes, 1 for the stations, 2 for the connected nodes, the plant "
                + "included, 3 for the nodes of the loop of the part of the plant, 4 for the changes that can be "
                + "undone, 5 for the characters in the text buffer", () -> counts());
    }

    private static void counts() {
        HeatNetwork x = new HeatNetwork();
        int[] empty = {0, 0, 1, 0, 0, 0};
        HeatNetwork y = fullOfPipes();
        for (int node = 1; node < 10; node++) {
            y.addStation(node, 1, 200, 1);
        }
        for (int i = 0; i < 60; i++) {
            y.append('0');
        }
        int[] full = {10, 9, 10, 10, 8, 60};
        for (int what = 0; what < 6; what++) {
            due("count(" + what + ") of nothing", x.count(what), empty[what]);
            due("count(" + what + ") of all", y.count(what), full[what]);
        }
        HeatNetwork z = triangle();
        z.removePipe(0);
        due("only the plant is connected", z.count(2), 1);
        due("the loop of another part", z.count(3), 0);
    }

    static void all() {
        Sentence.says("What it is", "An object is used for at most 512 calls after it has been made",
                () -> lastCall());
        Sentence.says("Promise 1", "Creates a network without pipes and stations.", () -> nothingThere());
        Sentence.says("Numbers", "Divisions are rounded down.", () -> roundedDown());
        settings();
        pipes();
        pipePromises();
        stations();
        stationPromises();
        whats();
    }

    public static void main(String[] arguments) {
        all();
        Check.end("BoundaryPlaceTest");
    }
}
