/** The boundaries of flows, temperatures, rounds, heads, meters and bills: sentence by sentence, worked out by hand. */
public final class BoundaryHourTest extends ByHand {
    private BoundaryHourTest() {
    }

    /** A station behind a pipe of resistance 1 without losses, so that the supply temperature is also its own. */
    private static HeatNetwork still(int supply, int size, int outdoor, int returnTemperature, int greatestFlow) {
        HeatNetwork x = new HeatNetwork();
        x.setSetting(0, supply);
        x.setSetting(2, outdoor);
        x.setSetting(3, 0);
        x.addPipe(0, 1, 1, 1);
        x.addStation(1, size, returnTemperature, greatestFlow);
        return x;
    }

    /** The loop 1, 2, 3 behind the plant, without losses, with the flows a at node 2 and b at node 3. */
    private static HeatNetwork ring(int[] lengths, int[] roughnesses, int a, int b) {
        HeatNetwork x = new HeatNetwork();
        x.setSetting(3, 0);
        x.addPipe(0, 1, 1, 1);
        int[] nodes = {1, 2, 3, 1};
        for (int i = 0; i < 3; i++) {
            x.addPipe(nodes[i], nodes[i + 1], lengths[i], roughnesses[i]);
        }
        draw(x, 2, a);
        draw(x, 3, b);
        return x;
    }

    /** A station that draws just this flow: it wants 28 of it at the temperatures at first. */
    private static void draw(HeatNetwork x, int node, int flow) {
        if (flow > 0) {
            x.addStation(node, 99, 200, flow);
        }
    }

    /** The heat that is made is the sum of all others. */
    private static void balanced(String name, HeatNetwork x) {
        due(name + ": account(0)", x.account(0), x.account(1) + x.account(2) + x.account(3));
    }

    // ---- Station flows

    private static void coldest() {
        due("650 is 600 plus 50", still(650, 1, 0, 600, 999).station(1, 6), 4);
        due("649 is less", still(649, 1, 0, 600, 999).station(1, 6), 0);
        due("250 less 200 is no matter of the supply", still(600, 1, 0, 550, 999).station(1, 6), 4);
        due("600 is less than 551 plus 50", still(600, 1, 0, 551, 999).station(1, 6), 0);
        // the flow of 1 loses half its difference to the ground, and comes at 500
        HeatNetwork x = new HeatNetwork();
        x.setSetting(2, 199);
        x.setSetting(3, 50);
        x.addPipe(0, 1, 2, 1);
        x.addStation(1, 1, 450, 999);
        due("500 is 450 plus 50", x.station(1, 6), 1);
        due("in two rounds", x.rounds(), 2);
        x.setReturn(1, 451);
        due("500 is less than 451 plus 50", x.station(1, 6), 0);
        due("in a third round", x.rounds(), 3);
        due("the node is at the ground temperature then", x.temperature(1, false), 100);
    }

    private static void roundedUp() {
        int[][] rows = {{200, 0}, {201, 0}, {199, 1}, {101, 1}, {100, 1}, {99, 2}, {1, 2}, {0, 2}, {-1, 3}, {-300, 5}};
        for (int[] row : rows) {
            due("wanted is 200 - " + row[0] + " at 100 a unit", still(600, 1, row[0], 500, 999).station(1, 6), row[1]);
        }
        due("1000 / 1000", still(1200, 2, -300, 200, 999).station(1, 6), 1);
        due("1001 / 1000", still(1200, 7, 57, 200, 999).station(1, 6), 2);
        due("999 / 1000", still(1200, 27, 163, 200, 999).station(1, 6), 1);
    }

    private static void atMost() {
        int[][] rows = {{1, 1}, {5, 5}, {6, 6}, {7, 6}, {999, 6}};
        for (int[] row : rows) {
            due("505 / 100, at most " + row[0], still(600, 5, 99, 500, row[0]).station(1, 6), row[1]);
        }
        due("49500 / 50, the greatest of all", still(650, 99, -300, 600, 999).station(1, 6), 990);
        due("at most 990", still(650, 99, -300, 600, 990).station(1, 6), 990);
        due("at most 989", still(650, 99, -300, 600, 989).station(1, 6), 989);
        due("at most 1, but nothing is wanted", still(650, 99, 200, 600, 1).station(1, 6), 0);
        due("at most 1, but it is too cold", still(649, 99, 0, 600, 1).station(1, 6), 0);
    }

    private static void notConnected() {
        HeatNetwork x = new HeatNetwork();
        x.addPipe(5, 6, 3, 1);
        x.addPipe(6, 7, 3, 1);
        x.addPipe(7, 5, 3, 1);
        x.addStation(5, 99, 200, 999);
        x.addStation(6, 99, 200, 999);
        x.addStation(9, 99, 200, 999);
        for (int node : new int[] {5, 6, 9}) {
            due("station(" + node + ", 6)", x.station(node, 6), 0);
            due("meter(" + node + ", 3)", x.meter(node, 3), 0);
        }
        for (int pipe = 0; pipe < 3; pipe++) {
            due("flow(" + pipe + ")", x.flow(pipe), 0);
            due("direction(" + pipe + ")", x.direction(pipe), '0');
            due("loss(" + pipe + ")", x.loss(pipe), 0);
        }
        due("nothing is made", x.account(0), 0);
        x.setSetting(3, 0);
        x.addPipe(0, 7, 1, 1);
        due("connected, 19800 / 700", x.station(6, 6), 29);
        due("connected, at the plant", x.flow(3), 58);
        x.removePipe(3);
        due("cut off again", x.station(6, 6), 0);
        due("cut off again, its pipe", x.flow(0), 0);
    }

    private static void stationFlows() {
        Sentence.says("Station flows", "is 0 if the temperature is less than its return temperature plus 50",
                () -> coldest());
        Sentence.says("Station flows", "divided by the difference of both temperatures, rounded up",
                () -> roundedUp());
        Sentence.says("Station flows", "but at most its greatest flow", () -> atMost());
        Sentence.says("Station flows", "Stations that are not connected have the flow 0, and so have pipes in parts "
                + "without the plant.", () -> notConnected());
    }

    // ---- Pipe flows

    private static void loopNodes(String name, HeatNetwork x, int... nodes) {
        for (int i = 0; i < nodes.length; i++) {
            due(name + ", loop(" + i + ")", x.loop(i), nodes[i]);
        }
        due(name + ", count(3)", x.count(3), nodes.length);
    }

    private static HeatNetwork pipesBetween(int... ends) {
        HeatNetwork x = new HeatNetwork();
        for (int i = 0; i < ends.length; i += 2) {
            x.addPipe(ends[i], ends[i + 1], 1, 1);
        }
        return x;
    }

    private static void beginnings() {
        loopNodes("at the plant", pipesBetween(0, 8, 8, 9, 9, 0), 0, 8, 9);
        HeatNetwork far = pipesBetween(0, 1, 1, 2, 2, 3, 3, 4, 4, 5, 5, 6, 6, 7, 7, 8, 8, 9, 9, 7);
        loopNodes("as far as can be", far, 7, 8, 9);
        loopNodes("at its highest node", pipesBetween(0, 9, 9, 2, 2, 1, 1, 9), 9, 1, 2);
        loopNodes("behind a higher node", pipesBetween(0, 9, 9, 5, 5, 1, 1, 2, 2, 5), 5, 1, 2);
        thrown("no loop in the part of the plant", ELEMENT, () -> pipesBetween(0, 1, 2, 3, 3, 4, 4, 2).loop(0));
    }

    private static void lowerNeighbor() {
        loopNodes("the first pipe leads to it", pipesBetween(0, 1, 1, 2, 2, 3, 3, 0), 0, 1, 2, 3);
        loopNodes("the last pipe leads to it", pipesBetween(0, 3, 3, 2, 2, 1, 1, 0), 0, 1, 2, 3);
        loopNodes("its pipe comes from it", pipesBetween(1, 0, 2, 1, 3, 2, 0, 3), 0, 1, 2, 3);
        loopNodes("lower ones are not in the loop", pipesBetween(0, 1, 0, 2, 2, 9, 9, 3, 3, 4, 4, 2), 2, 4, 3, 9);
        loopNodes("only neighbors count", pipesBetween(0, 5, 5, 1, 1, 4, 4, 0), 0, 4, 1, 5);
    }

    private static void flowsBehind() {
        HeatNetwork x = ring(new int[] {1, 1, 1}, new int[] {1, 1, 1}, 1, 3);
        x.addPipe(4, 1, 1, 1);
        x.addPipe(2, 5, 1, 1);
        x.addPipe(6, 3, 1, 1);
        draw(x, 1, 7);
        draw(x, 4, 11);
        draw(x, 5, 2);
        draw(x, 6, 2);
        // 3 behind node 2 and 5 behind node 3: at 4 the sum is 16 + 1 - 16, at 3 it is 9 + 0 - 25
        int[] flows = {26, 4, 1, -4, -11, 2, -2};
        for (int pipe = 0; pipe < 7; pipe++) {
            due("flow(" + pipe + ")", x.flow(pipe), flows[pipe]);
        }
        due("imbalance()", x.imbalance(), 1);
        HeatNetwork y = pipesBetween(0, 1, 1, 2, 2, 0);
        y.setSetting(3, 0);
        due("at the plant nothing is drawn", y.flow(0), 0);
        draw(y, 1, 1);
        due("1 is drawn at its first node: x", y.flow(0), 1);
        due("1 is drawn at its first node: x - 1", y.flow(1), 0);
        due("1 is drawn at its first node: x - 1, once more", y.flow(2), 0);
    }

    private static void ringFlows(String name, HeatNetwork x, int first, int second, int third, int imbalance) {
        due(name + ", flow(1)", x.flow(1), first);
        due(name + ", flow(2)", x.flow(2), second);
        due(name + ", flow(3)", x.flow(3), third);
        due(name + ", imbalance()", x.imbalance(), imbalance);
    }

    private static void leastFirstFlow() {
        int[] one = {1, 1, 1};
        ringFlows("0 at 0", ring(one, one, 0, 0), 0, 0, 0, 0);
        ringFlows("-1 at 0, 2 at 1", ring(one, one, 0, 1), 1, 1, 0, 2);
        ringFlows("-2 at 0, 1 at 1", ring(one, one, 1, 0), 1, 0, 0, 1);
        ringFlows("-9 at 1, 0 at 2", ring(one, one, 2, 2), 2, 0, -2, 0);
        ringFlows("-8 at 1, 1 at 2", ring(one, one, 1, 3), 2, 1, -2, 1);
        ringFlows("-1 at 2, 8 at 3", ring(one, one, 3, 1), 3, 0, -1, 8);
        ringFlows("-1 at 4, 14 at 5", ring(one, one, 5, 3), 5, 0, -3, 16);
        ringFlows("16 - 892 at 4, 25 at 5, all that is drawn",
                ring(new int[] {1, 1, 99}, new int[] {1, 1, 9}, 5, 0), 5, 0, 0, 25);
        ringFlows("-25 at 0, 891 + 1 - 16 at 1", ring(new int[] {99, 1, 1}, new int[] {9, 1, 1}, 0, 5), 1, 1, -4, 876);
    }

    private static void directions() {
        HeatNetwork x = ring(new int[] {1, 1, 1}, new int[] {1, 1, 1}, 2, 2);
        char[] signs = {'+', '+', '0', '-'};
        for (int pipe = 0; pipe < 4; pipe++) {
            due("direction(" + pipe + ")", x.direction(pipe), signs[pipe]);
        }
        due("no loss without a flow", x.loss(2), 0);
        HeatNetwork y = new HeatNetwork();
        y.setSetting(3, 0);
        y.addPipe(1, 0, 1, 1);
        due("direction(0) of no flow", y.direction(0), '0');
        draw(y, 1, 1);
        due("direction(0) of the least flow", y.direction(0), '-');
        due("flow(0) of the least flow", y.flow(0), -1);
        y.removePipe(0);
        y.addPipe(0, 1, 1, 1);
        due("direction(0) of the least flow the other way", y.direction(0), '+');
        due("flow(0) of the least flow the other way", y.flow(0), 1);
    }

    private static void pipeFlows() {
        Sentence.says("Pipe flows", "The loop of the part that contains the plant, if there is one, begins at its node "
                + "that is nearest to the plant.", () -> beginnings());
        Sentence.says("Pipe flows", "The flow behind a node is the flow of its station plus, for each pipe at it that "
                + "leads farther away from the plant without being part of the loop, the flow behind the node at its "
                + "other end, plus, if the loop begins at the node, the flows behind all other nodes of the loop.",
                () -> flowsBehind());
        Sentence.says("Pipe flows", "The loop goes from its beginning first to the one of its two neighbors in the "
                + "loop that has the lower number, and so on round to its beginning.", () -> lowerNeighbor());
        Sentence.says("Pipe flows", "A pipe that is not part of the loop carries the flow behind its end that is "
                + "farther from the plant, toward this end.", () -> farEnds());
        Sentence.says("Pipe flows", "each following pipe carries the flow of the one ahead of it minus the flow behind "
                + "the node between both, where the loop itself is left out", () -> flowsBehind());
        Sentence.says("Pipe flows", "a negative flow goes in the opposite direction.", () -> directions());
        Sentence.says("Pipe flows", "The drop of a pipe is its resistance times its flow times the absolute value of "
                + "its flow.", () -> drops());
        Sentence.says("Pipe flows", "x is the least number from 0 on for which the sum of the drops of all pipes of "
                + "the loop is not negative; this sum is the imbalance.", () -> leastFirstFlow());
        Sentence.says("Promise 18", "Returns the flow, above 0 from its first node as it was told to the other one, "
                + "below 0 in the opposite direction.", () -> directions());
        Sentence.says("Promise 19", "Returns + from its first node as it was told to the other one, - in the opposite "
                + "direction, or 0 without a flow.", () -> directions());
        Sentence.says("Promise 25", "Throws NoSuchElementException if the part of the plant has no loop", () -> {
            thrown("imbalance() of nothing", ELEMENT, () -> new HeatNetwork().imbalance());
            thrown("imbalance() of all nodes in a row", ELEMENT, () -> chainOfTen().imbalance());
            due("imbalance() of all nodes in a loop", fullOfPipes().imbalance(), 0);
            HeatNetwork x = ring(new int[] {1, 1, 1}, new int[] {1, 1, 1}, 1, 3);
            due("imbalance() of a loop", x.imbalance(), 1);
            x.removePipe(0);
            thrown("imbalance() of a loop elsewhere", ELEMENT, () -> x.imbalance());
        });
        Sentence.says("Details", "A loop without any flow has x 0 and the imbalance 0; loops of other parts are not "
                + "told.", () -> quietLoops());
    }

    private static void farEnds() {
        HeatNetwork x = chainOfTen();
        draw(x, 9, 1);
        for (int pipe = 0; pipe < 9; pipe++) {
            due("1 at the end of all, flow(" + pipe + ")", x.flow(pipe), 1);
        }
        draw(x, 1, 28);
        due("28 more at the first node", x.flow(0), 29);
        due("and not behind it", x.flow(1), 1);
        x.removeStation(9);
        due("nothing behind it", x.flow(1), 0);
        HeatNetwork y = pipesBetween(5, 0, 7, 5);
        draw(y, 7, 3);
        due("told from the far end", y.flow(0), -3);
        due("told from the far end, farther", y.flow(1), -3);
    }

    private static void drops() {
        // 6, 3 and -5 through resistances of 1: 36 + 9 - 25
        HeatNetwork x = triangle();
        due("imbalance()", x.imbalance(), 20);
        due("head(2) - head(1)", x.head(2) - x.head(1), 36);
        due("head(3) - head(2)", x.head(3) - x.head(2), 9);
        x.addPipe(3, 4, 7, 3);
        due("without a flow", x.head(4) - x.head(3), 0);
        // the pipe is told the other way round, and carries as much
        HeatNetwork y = pipesBetween(1, 0);
        y.setSetting(3, 0);
        draw(y, 1, 5);
        due("head(1) through a pipe that carries -5", y.head(1), 25);
        HeatNetwork z = ring(new int[] {1, 1, 1}, new int[] {1, 1, 1}, 5, 3);
        due("a pipe that carries 0 and one that carries -3", z.head(3) - z.head(2), 0);
        due("25 + 0 - 9", z.imbalance(), 16);
    }

    private static void quietLoops() {
        HeatNetwork x = ring(new int[] {5, 6, 7}, new int[] {9, 8, 7}, 0, 0);
        x.addPipe(3, 4, 1, 1);
        x.addPipe(1, 5, 1, 1);
        ringFlows("no flow", x, 0, 0, 0, 0);
        draw(x, 5, 9);
        ringFlows("a flow beside the loop", x, 0, 0, 0, 0);
        due("head(3) of a loop without a flow", x.head(3), x.head(1));
        due("temperature(3, false) without a flow", x.temperature(3, false), 100);
        due("temperature(3, true) without a flow", x.temperature(3, true), 100);
        x.removePipe(0);
        due("count(3) of a loop elsewhere", x.count(3), 0);
        due("pipe(0, 4) of a loop elsewhere", x.pipe(0, 4), 0);
        thrown("loop(0) of a loop elsewhere", ELEMENT, () -> x.loop(0));
        thrown("imbalance() of a loop elsewhere", ELEMENT, () -> x.imbalance());
    }

    // ---- Temperatures and what comes back

    private static void falls() {
        HeatNetwork x = new HeatNetwork();
        x.setSetting(2, -300);
        x.setSetting(3, 99);
        x.addPipe(0, 1, 99, 9);
        x.addStation(1, 99, 200, 49);
        due("100 + 800 * 4900 / 14701", x.temperature(1, false), 366);
        due("100 + 100 * 4900 / 14701", x.temperature(0, true), 133);
        due("49 * (534 + 67)", x.loss(0), 29449);
        due("49 * 166", x.account(1), 8134);
        balanced("the longest pipe with the greatest loss", x);
        x.setSetting(3, 0);
        due("no loss: no fall", x.temperature(1, false), 900);
        due("no loss: no fall back", x.temperature(0, true), 200);
        due("loss(0)", x.loss(0), 0);
        balanced("without a loss", x);
        HeatNetwork y = new HeatNetwork();
        y.setSetting(2, 199);
        y.setSetting(3, 1);
        y.addPipe(0, 1, 1, 1);
        y.addStation(1, 1, 200, 1);
        due("100 + 800 * 100 / 101, the shortest with the least loss", y.temperature(1, false), 892);
        due("100 + 100 * 100 / 101", y.temperature(0, true), 199);
        y.setSetting(1, 200);
        due("water at the ground temperature stays so", y.temperature(0, true), 200);
        due("200 + 700 * 100 / 101", y.temperature(1, false), 893);
        y.setSetting(1, 0);
        due("900 * 100 / 101", y.temperature(1, false), 891);
        due("200 * 100 / 101", y.temperature(0, true), 198);
    }

    private static void withoutFlow() {
        HeatNetwork x = still(900, 1, 0, 300, 9);
        x.addPipe(1, 2, 1, 1);
        x.setSetting(1, 77);
        due("behind a pipe without a flow", x.temperature(2, false), 77);
        due("behind a pipe without a flow, back", x.temperature(2, true), 77);
        due("its pipe loses nothing", x.loss(1), 0);
        due("with a flow", x.temperature(1, false), 900);
        x.setSetting(2, 200);
        due("the flow is gone", x.temperature(1, false), 77);
        due("the plant has the supply temperature always", x.temperature(0, false), 900);
        due("but back the ground temperature", x.temperature(0, true), 77);
        due("and in degrees", x.returnDegrees(), 7.7f);
        x.setSetting(1, 0);
        due("a ground of 0", x.returnDegrees(), 0.0f);
        x.setSetting(1, 200);
        due("a ground of 200", x.returnDegrees(), 20.0f);
        due("no rounding without a flow", x.rounding(0), 0);
        x.setSetting(0, 1200);
        due("the greatest supply", x.temperature(0, false), 1200);
    }

    /** A loop of four with a station opposite its beginning. */
    private static HeatNetwork opposite(int flow) {
        HeatNetwork x = new HeatNetwork();
        int[] nodes = {0, 1, 2, 3, 0};
        for (int i = 0; i < 4; i++) {
            x.addPipe(nodes[i], nodes[i + 1], 10, 1);
        }
        draw(x, 2, flow);
        return x;
    }

    private static void mixed() {
        HeatNetwork x = opposite(4);
        // both ways carry 2: 100 + 800 * 200 / 300 = 633, then 100 + 533 * 200 / 300 = 455
        due("half the way", x.temperature(3, false), 633);
        due("2 * 455 + 2 * 455 by 4", x.temperature(2, false), 455);
        due("nothing is left", x.rounding(2), 0);
        due("a flow below 0 cools as one above it", x.temperature(1, false), 633);
        due("flow(0)", x.flow(0), 2);
        due("flow(3)", x.flow(3), -2);
        due("loss(3): 2 * (900 - 633 + 144 - 129)", x.loss(3), x.loss(0));
        balanced("a loop at the plant", x);
        HeatNetwork y = opposite(5);
        // 3 one way: 100 + 800 * 300 / 400 = 700, 100 + 600 * 300 / 400 = 550; 2 the other way: 455
        due("3 * 550 + 2 * 455 by 5", y.temperature(2, false), 512);
        due("nothing is left of 2560", y.rounding(2), 0);
        // back, 3 one way: 100 + 100 * 3 / 4 = 175, 156; 2 the other way: 166, 144: 3 * 156 + 2 * 144 = 756 by 5
        due("at the plant", y.temperature(0, true), 151);
        due("1 is left of 756", y.rounding(0), 1);
        balanced("a loop with two temperatures", y);
        bothSides();
        HeatNetwork z = twoStations();
        due("2855 by 7: all but one is left", z.rounding(1), 6);
        z.setReturn(2, 450);
        // 2 * 300 + 4 * 450 = 2400 by 6
        due("2400 by 6: nothing is left", z.rounding(1), 0);
        due("temperature(1, true)", z.temperature(1, true), 400);
    }

    /** Water comes to the loop's second node from both sides. */
    private static void bothSides() {
        HeatNetwork x = new HeatNetwork();
        x.addPipe(0, 1, 9, 1);
        x.addPipe(1, 2, 1, 1);
        x.addPipe(2, 0, 1, 1);
        draw(x, 1, 5);
        // x, x - 5, x - 5 through 9, 1, 1: 9 - 32 at 1, 36 - 18 at 2
        due("flow(0)", x.flow(0), 2);
        due("flow(1)", x.flow(1), -3);
        due("flow(2)", x.flow(2), -3);
        due("100 + 800 * 300 / 310", x.temperature(2, false), 874);
        // 100 + 800 * 200 / 290 = 651, 100 + 774 * 300 / 310 = 849
        due("2 * 651 + 3 * 849 by 5", x.temperature(1, false), 769);
        due("4 is left of 3849", x.rounding(1), 4);
        due("100 + 100 * 300 / 310", x.temperature(2, true), 196);
        // 100 + 100 * 200 / 290 = 168, 100 + 96 * 300 / 310 = 192
        due("2 * 168 + 3 * 192 by 5", x.temperature(0, true), 182);
        due("2 is left of 912", x.rounding(0), 2);
        due("9 * 4", x.head(1), 36);
        due("36 - 9", x.head(2), 27);
        balanced("from both sides", x);
    }

    private static void nodeAnswers() {
        String noNode = "Throws IndexOutOfBoundsException if there is no such node";
        String notConnected = "Throws NoSuchElementException if the node is not connected, or there is no such node";
        HeatNetwork x = twoStations();
        Sentence.says("Promise 20", "Nodes that are not connected have the ground temperature.", () -> {
            HeatNetwork y = pipesBetween(5, 6);
            y.setSetting(1, 55);
            draw(y, 6, 9);
            due("temperature(6, false)", y.temperature(6, false), 55);
            due("temperature(6, true)", y.temperature(6, true), 55);
            due("temperature(9, false)", y.temperature(9, false), 55);
            y.addPipe(0, 5, 1, 1);
            due("connected", y.temperature(6, false) > 55, true);
        });
        Sentence.says("Promise 20", noNode, () -> {
            for (int node : NO_NODES) {
                thrown("temperature(" + node + ", false)", INDEX, () -> x.temperature(node, false));
                thrown("temperature(" + node + ", true)", INDEX, () -> x.temperature(node, true));
            }
            due("temperature(0, true)", x.temperature(0, true), 407);
            due("temperature(9, true)", x.temperature(9, true), 100);
        });
        Sentence.says("Promise 22", noNode, () -> {
            for (int node : NO_NODES) {
                thrown("rounding(" + node + ")", INDEX, () -> x.rounding(node));
            }
            due("rounding(0)", x.rounding(0), 0);
            due("rounding(9)", x.rounding(9), 0);
        });
        Sentence.says("Promise 23", notConnected, () -> {
            for (int node : NO_NODES) {
                thrown("head(" + node + ")", ELEMENT, () -> x.head(node));
            }
            due("head(0)", x.head(0), 0);
            due("head(2)", x.head(2), 419);
            thrown("head(3)", ELEMENT, () -> x.head(3));
            thrown("head(9)", ELEMENT, () -> x.head(9));
        });
        Sentence.says("Promise 28", notConnected, () -> {
            for (int node : NO_NODES) {
                thrown("distance(" + node + ")", ELEMENT, () -> x.distance(node));
            }
            due("distance(0)", x.distance(0), 0);
            due("distance(2)", x.distance(2), 2);
            thrown("distance(3)", ELEMENT, () -> x.distance(3));
            thrown("distance(9)", ELEMENT, () -> x.distance(9));
        });
        Sentence.says("Promise 29", noNode, () -> {
            for (int node : NO_NODES) {
                thrown("part(" + node + ")", INDEX, () -> x.part(node));
            }
            due("part(0)", x.part(0), 7);
            due("part(9)", x.part(9), 512);
        });
        Sentence.says("Promise 30", noNode, () -> {
            for (int node : NO_NODES) {
                thrown("isConnected(" + node + ")", INDEX, () -> x.isConnected(node));
            }
            due("isConnected(0)", x.isConnected(0), true);
            due("isConnected(9)", x.isConnected(9), false);
        });
    }

    private static void temperatures() {
        Sentence.says("Temperatures", "A pipe with the flow f, which is not 0, changes the temperature t of the water "
                + "that enters it to the ground temperature plus (t minus the ground temperature) * 100 * f / (100 * "
                + "f + length * loss).", () -> falls());
        Sentence.says("Temperatures", "The temperature of the plant is the supply temperature.", () -> {
            HeatNetwork x = new HeatNetwork();
            for (int supply : new int[] {600, 900, 1200}) {
                x.setSetting(0, supply);
                due("temperature(0, false)", x.temperature(0, false), supply);
            }
            due("with a loop", fullOfPipes().temperature(0, false), 900);
        });
        Sentence.says("Temperatures", "without such a flow it is the ground temperature.", () -> withoutFlow());
        Sentence.says("Return", "without such a flow it is the ground temperature.", () -> withoutFlow());
        Sentence.says("Details", "Without a flow the return temperature of a node, also of the plant, is the ground "
                + "temperature.", () -> withoutFlow());
        Sentence.says("Details", "A pipe whose flow is below 0 changes temperatures by the flow without its sign.",
                () -> mixed());
        Sentence.says("Accounts", "The heat that a node loses by rounding is the remainder of the division by which "
                + "its temperature is found, plus that of the one by which its return temperature is found.",
                () -> mixed());
        Sentence.says("Details", "The plant loses by rounding only the remainder of its return temperature.", () -> {
            due("756 by 5", opposite(5).rounding(0), 1);
            due("without a remainder", opposite(4).rounding(0), 0);
            due("without a flow", new HeatNetwork().rounding(0), 0);
        });
        nodeAnswers();
    }

    // ---- Rounds

    private static HeatNetwork longPipe(int length, int size, int returnTemperature) {
        HeatNetwork x = new HeatNetwork();
        x.addPipe(0, 1, length, 1);
        x.addStation(1, size, returnTemperature, 999);
        return x;
    }

    private static void rounds(String name, HeatNetwork x, int rounds, int flow, int temperature) {
        due(name + ", rounds()", x.rounds(), rounds);
        due(name + ", station(1, 6)", x.station(1, 6), flow);
        due(name + ", temperature(1, false)", x.temperature(1, false), temperature);
        balanced(name, x);
    }

    private static void rounds() {
        Sentence.says("Rounds", "In the first round, the station flows are found with the supply temperature at all "
                + "nodes; in each further round, they are found with the temperatures of the nodes that came of the "
                + "round before.", () -> {
            rounds("1, 2, 2 at 827, 861", longPipe(1, 2, 500), 3, 2, 861);
            HeatNetwork x = longPipe(99, 1, 200);
            // 200 / 700 is 1, that comes at 100 + 800 * 100 / 1090 = 173, less than 250
            rounds("1, 0, 0 at 173, 100", x, 3, 0, 100);
            x.setSetting(0, 1200);
            rounds("1, 0, 0 at 200, 100", x, 3, 0, 100);
        });
        Sentence.says("Rounds", "The rounds end as soon as the station flows are the same as in the round before, or "
                + "after 12 rounds.", () -> lastRounds());
        Sentence.says("Details", "There are at least 2 rounds, as the first one has none before it.", () -> {
            due("no station", new HeatNetwork().rounds(), 2);
            HeatNetwork x = pipesBetween(0, 2, 8, 9);
            draw(x, 9, 28);
            due("a station that is not connected", x.rounds(), 2);
            draw(x, 7, 28);
            due("a station without a pipe", x.rounds(), 2);
            due("a flow that stays", still(900, 9, 0, 300, 9).rounds(), 2);
            due("a station that wants nothing", still(900, 9, 200, 300, 9).rounds(), 2);
        });
        Sentence.says("Promise 26", "Returns the number of rounds in which the state was found, the last one included.",
                () -> lastRounds());
    }

    private static void lastRounds() {
        rounds("5, 24, 6, 17, 7, 14, 8, 12, 9, 10, 10", longPipe(34, 9, 500), 11, 10, 697);
        rounds("5, 27, 6, 19, 7, 15, 8, 13, 9, 11, 10, 10", longPipe(44, 10, 450), 12, 10, 655);
        rounds("8, 38, 10, 25, 12, 20, 13, 19, 14, 17, 15, 16", longPipe(67, 16, 450), 12, 16, 663);
        // 3 at 715, 7 at 808, 6 at 795, 7 at 808 and so on
        HeatNetwork x = longPipe(9, 9, 500);
        rounds("5, 7, 6, 7, 6, 7, 6, 7, 6, 7, 6, 7", x, 12, 7, 808);
        x.addPipe(0, 2, 1, 1);
        x.addStation(2, 2, 500, 999);
        due("two stations, of which one comes to an end sooner", x.rounds(), 12);
        due("the other one", x.station(2, 6), 2);
        x.removeStation(1);
        due("without the first", x.rounds(), 3);
    }

    // ---- Heads

    private static void heads() {
        HeatNetwork x = fullOfPipes();
        draw(x, 9, 10);
        // nine pipes carry x, one x - 10: 36 - 64 at 2, 81 - 49 at 3
        due("flow(9)", x.flow(9), -7);
        due("imbalance()", x.imbalance(), 32);
        for (int node = 0; node < 10; node++) {
            due("round by the first pipe, head(" + node + ")", x.head(node), 9 * node);
        }
        due("neededHead()", x.neededHead(), 81);
        HeatNetwork y = chainOfTen();
        y.removePipe(8);
        due("head(0)", y.head(0), 0);
        due("head(8) without a flow", y.head(8), 0);
        thrown("head(9)", ELEMENT, () -> y.head(9));
        HeatNetwork z = new HeatNetwork();
        z.setSetting(0, 650);
        z.setSetting(2, -300);
        z.setSetting(3, 0);
        for (int node = 1; node < 10; node++) {
            z.addPipe(node, node - 1, 99, 9);
            z.addStation(node, 99, 600, 999);
        }
        due("flow(0) of the greatest", z.flow(0), -8910);
        due("head(1): 891 * 8910 * 8910", z.head(1), 891L * 8910 * 8910);
        due("891 * 990 * 990 * (81 + 64 + .. + 1)", z.head(9), 891L * 980100 * 285);
        due("neededHead()", z.neededHead(), 248881693500L);
        refused("more than the pump has", 7, z, () -> z.hours(1));
        balanced("the greatest flows", z);
    }

    /** The first pipe of all is the last one that is reached, and lies behind others in the loop. */
    private static void headsRound() {
        HeatNetwork x = new HeatNetwork();
        x.setSetting(3, 0);
        x.addPipe(2, 3, 2, 1);
        x.addPipe(0, 1, 1, 3);
        x.addPipe(1, 2, 5, 1);
        x.addPipe(3, 0, 1, 1);
        x.addPipe(2, 4, 1, 1);
        draw(x, 4, 4);
        draw(x, 3, 2);
        // x, x, x - 4, x - 6 through 3, 5, 2, 1: 8 - 18 - 25 at 1, 32 - 8 - 16 at 2
        loopNodes("pipe 0 is the third", x, 0, 1, 2, 3);
        int[] flows = {-2, 2, 2, -4, 4};
        int[] isPart = {1, 1, 1, 1, 0};
        for (int pipe = 0; pipe < 5; pipe++) {
            due("flow(" + pipe + ")", x.flow(pipe), flows[pipe]);
            due("pipe(" + pipe + ", 4)", x.pipe(pipe, 4), isPart[pipe]);
        }
        due("3 * 4", x.head(1), 12);
        due("12 + 5 * 4", x.head(2), 32);
        due("32 - 2 * 4", x.head(3), 24);
        due("24 - 1 * 16", x.imbalance(), 8);
        due("32 + 1 * 16, behind the loop", x.head(4), 48);
        due("behind the loop, temperature(4, false)", x.temperature(4, false), 900);
        due("behind the loop, temperature(4, true)", x.temperature(4, true), 200);
    }

    /** Two stations at the plant, behind the greatest resistance and the least one. */
    private static HeatNetwork strongAndWeak(int strong, int weak) {
        HeatNetwork x = new HeatNetwork();
        x.setSetting(3, 0);
        for (int node = 1; node < 3; node++) {
            x.addPipe(0, node, node == strong ? 99 : 1, node == strong ? 9 : 1);
        }
        draw(x, strong, 5);
        draw(x, weak, 1);
        return x;
    }

    private static void neededHeads() {
        due("no node at all", new HeatNetwork().neededHead(), 0);
        HeatNetwork x = still(650, 99, -300, 600, 10);
        due("1 * 10 * 10", x.neededHead(), 100);
        x.addPipe(1, 2, 9, 9);
        x.addStation(2, 99, 600, 1);
        due("11 * 11 + 81 * 1 * 1", x.neededHead(), 202);
        x.setSetting(0, 649);
        due("no station has a flow", x.neededHead(), 0);
        HeatNetwork y = new HeatNetwork();
        y.addStation(1, 99, 200, 999);
        due("a station that is not connected", y.neededHead(), 0);
        HeatNetwork z = strongAndWeak(1, 2);
        due("891 * 5 * 5 at the first, 1 at the second", z.neededHead(), 22275);
        HeatNetwork w = strongAndWeak(2, 1);
        due("1 at the first, 891 * 5 * 5 at the second", w.neededHead(), 22275);
    }

    private static void allHeads() {
        Sentence.says("Heads", "The head of a connected node is the sum of the drops along a way of pipes from the "
                + "plant to it, counted in the direction away from the plant; at the loop the way begins with the "
                + "first pipe of the loop.", () -> {
            heads();
            headsRound();
        });
        Sentence.says("Heads", "The head that is needed is the greatest head of the nodes whose stations have a flow, "
                + "0 without such a node.", () -> neededHeads());
        Sentence.says("Promise 24", "Returns the head that is needed.", () -> neededHeads());
    }

    // ---- Meters and bills

    private static void meters() {
        HeatNetwork x = oneStation();
        for (int what = 0; what < 3; what++) {
            due("0 at first", x.meter(1, what), 0);
        }
        int[][] rows = {{0, 0, 1812}, {0, 2000, 1812}, {1, 0, 0}, {1, 2000, 0}, {2, 0, 0}, {2, 1, 1}, {2, 551, 998},
            {2, 552, 1000}, {2, 999, 1810}, {2, 1000, 1812}, {2, 1001, 1813}, {2, 1999, 3622}, {2, 2000, 3624}};
        long meter = 0;
        long hours = 0;
        for (int[] row : rows) {
            x.setMeter(1, row[0], row[1]);
            x.hours(24);
            meter += 24 * row[2];
            hours += 24;
            due("fault " + row[0] + ", thousandths " + row[1] + ", in 24 hours", x.meter(1, 0), meter);
            due("the true heat", x.meter(1, 1), hours * 1812);
            x.hours(1);
            meter += row[2];
            hours += 1;
            due("fault " + row[0] + ", thousandths " + row[1] + ", in another hour", x.meter(1, 0), meter);
        }
    }

    private static void bills() {
        HeatNetwork x = still(600, 5, 0, 500, 10);
        x.setSetting(6, 0);
        int[][] rows = {{0, 0}, {1, 1}, {999, 999}};
        long paid = 0;
        for (int[] row : rows) {
            x.setSetting(5, row[0]);
            x.hours(24);
            paid += 24 * row[1];
            due("1000 * " + row[0] + " / 1000 in 24 hours", x.meter(1, 2), paid);
        }
        HeatNetwork y = still(600, 5, 0, 500, 9);
        y.setSetting(6, 0);
        y.setSetting(5, 1);
        y.hours(24);
        due("900 * 1 / 1000 in each of 24 hours", y.meter(1, 2), 0);
        y.setSetting(5, 2);
        y.hours(24);
        due("900 * 2 / 1000 in each of 24 hours", y.meter(1, 2), 24);
        y.setMeter(1, 2, 1112);
        y.setSetting(5, 1);
        y.hours(1);
        due("1000 * 1 / 1000, as the meter counts", y.meter(1, 2), 25);
        y.setMeter(1, 1, 1112);
        y.setSetting(5, 999);
        y.hours(24);
        due("nothing, as the meter stands still", y.meter(1, 2), 25);
        due("account(7)", y.account(7), 25);
    }

    private static void tariffs() {
        HeatNetwork x = new HeatNetwork();
        x.addStation(1, 1, 200, 1);
        int[][] rows = {{0, 0, 200, 0}, {999, 0, 200, 999}, {999, 0, 600, 999}, {0, 99, 600, 1980}, {0, 99, 200, 0},
            {999, 99, 600, 2979}, {999, 99, 200, 0}, {999, 49, 200, 19}, {999, 50, 200, 0}, {980, 49, 200, 0},
            {981, 49, 200, 1}, {979, 49, 200, 0},
            {5, 1, 400, 5}, {5, 1, 409, 5}, {5, 1, 410, 6}, {5, 1, 399, 4}, {5, 1, 391, 4}, {5, 1, 390, 4},
            {5, 1, 389, 3}, {0, 1, 399, 0}, {1, 1, 399, 0}, {2, 1, 399, 1}, {1, 1, 390, 0}, {1, 1, 389, 0},
            {100, 5, 401, 100}, {100, 5, 402, 101}, {100, 5, 399, 99}, {100, 5, 398, 99}, {100, 5, 397, 98}};
        for (int[] row : rows) {
            x.setSetting(5, row[0]);
            x.setSetting(6, row[1]);
            x.setReturn(1, row[2]);
            due("price " + row[0] + ", rate " + row[1] + ", return " + row[2], x.station(1, 7), row[3]);
        }
    }

    /** Rounds that end at the twelfth leave a node at 591 whose station gives back 595: see PromiseTest. */
    private static HeatNetwork belowNothing() {
        HeatNetwork x = new HeatNetwork();
        x.setSetting(0, 1120);
        x.setSetting(3, 82);
        x.setSetting(2, -197);
        x.addPipe(0, 1, 38, 6);
        x.addStation(1, 21, 595, 161);
        x.addPipe(1, 2, 54, 4);
        x.addStation(2, 51, 595, 57);
        return x;
    }

    private static void hourByHour() {
        HeatNetwork x = belowNothing();
        x.setMeter(1, 2, 1);
        x.hours(10);
        due("-116 * 1 / 1000 is -1 in each hour", x.meter(1, 0), -10);
        due("-1 * 197 / 1000 is -1 in each hour", x.meter(1, 2), -10);
        due("the true heat", x.meter(1, 1), -1160);
        HeatNetwork y = oneStation();
        y.setMeter(1, 2, 1);
        y.hours(10);
        due("1.812 is 1 in each hour", y.meter(1, 0), 10);
        due("1 * 50 / 1000 is 0 in each hour", y.meter(1, 2), 0);
        y.setMeter(1, 0, 1);
        y.hours(10);
        due("90.6 is 90 in each hour", y.meter(1, 2), 900);
    }

    private static void allMeters() {
        Sentence.says("Meters", "The meter of a station shows a number, 0 at first.", () -> {
            due("meter(1, 0)", oneStation().meter(1, 0), 0);
            due("station(1, 3)", oneStation().station(1, 3), 0);
        });
        Sentence.says("Meters", "In each hour the number grows by the heat of the station, by 0, or by the heat times "
                + "the thousandths, divided by 1000, respectively.", () -> meters());
        Sentence.says("Meters", "The true heat of a station is the sum of its heat in all hours since it was made.",
                () -> {
            HeatNetwork x = oneStation();
            x.setMeter(1, 1, 0);
            x.hours(3);
            x.setSetting(2, 200);
            x.hours(24);
            due("24 hours without heat", x.meter(1, 1), 3 * 1812);
            x.removeStation(1);
            x.setSetting(2, 0);
            x.addStation(1, 9, 300, 9);
            due("a new station", x.meter(1, 1), 0);
            x.hours(1);
            due("its first hour", x.meter(1, 1), 1812);
        });
        Sentence.says("Bills", "that number times the tariff, divided by 1000.", () -> bills());
        Sentence.says("Bills", "The tariff is the price plus the rate times (its return temperature minus 400) divided "
                + "by 10, but at least 0.", () -> tariffs());
        Sentence.says("Details", "The tariff divides the product, rounded down also below 0.", () -> tariffs());
        Sentence.says("Details", "What meters count and what is paid is rounded down in each hour by itself.",
                () -> hourByHour());
    }

    // ---- Promises 31 to 36

    private static void suspects() {
        HeatNetwork x = new HeatNetwork();
        x.setSetting(3, 0);
        x.addPipe(0, 3, 1, 1);
        x.addPipe(0, 7, 1, 1);
        x.addStation(7, 6, 300, 999);
        due("the only one, without a difference", x.suspect(), 7);
        x.addStation(9, 6, 300, 999);
        due("the lowest of two, without a difference", x.suspect(), 7);
        x.addStation(3, 6, 300, 999);
        due("the lowest of three, without a difference", x.suspect(), 3);
        x.setMeter(7, 2, 1500);
        x.hours(1);
        due("600 more is more than nothing", x.suspect(), 7);
        x.setMeter(3, 2, 500);
        x.hours(1);
        due("1200 more is more than 600 less", x.suspect(), 7);
        x.setMeter(7, 0, 0);
        x.hours(1);
        due("1200 less is as much as 1200 more: the lowest", x.suspect(), 3);
        x.setMeter(7, 2, 1001);
        x.hours(1);
        due("1800 less is more than 1201 more", x.suspect(), 3);
        x.removeStation(3);
        due("the lower one is gone", x.suspect(), 7);
        x.removeStation(7);
        due("one that is not connected remains", x.suspect(), 9);
        x.removeStation(9);
        thrown("none remains", ELEMENT, () -> x.suspect());
    }

    private static void bestReturns() {
        HeatNetwork x = still(900, 9, 0, 300, 999);
        x.setSetting(5, 0);
        x.setSetting(6, 0);
        due("all pay nothing: the lowest", x.bestReturn(1), 200);
        HeatNetwork y = still(649, 9, 0, 300, 999);
        y.setSetting(6, 0);
        due("649 is too cold for 600 alone", y.bestReturn(1), 600);
        y.setSetting(0, 650);
        // 1800: 4 * 450, 5 * 400, 6 * 350, 6 * 300, 8 * 250, 9 * 200, 12 * 150, 18 * 100, 36 * 50
        due("650 is not: the lowest of all with 1800", y.bestReturn(1), 200);
        HeatNetwork z = still(1000, 42, 100, 300, 999);
        z.setSetting(6, 0);
        // 4200: 6 * 800, 6 * 750, 6 * 700, 7 * 650, 7 * 600, 8 * 550, 9 * 500, 10 * 450, 11 * 400
        due("4200 at 300 and at 400: the lower one", z.bestReturn(1), 300);
        z.setSetting(5, 1);
        due("4800 and 4200 both pay 4", z.bestReturn(1), 200);
        z.setSetting(5, 2);
        due("9600 pays 9, 9000 too, 8400 pays 8", z.bestReturn(1), 300);
        z.setMeter(1, 1, 1000);
        due("a meter that stands still", z.bestReturn(1), 200);
        z.setMeter(1, 2, 0);
        due("a meter that counts nothing", z.bestReturn(1), 200);
        z.setMeter(1, 2, 2000);
        due("a meter that counts twice: 19, 18, 16", z.bestReturn(1), 300);
        z.setMeter(1, 2, 1000);
        z.setReturn(1, 333);
        due("its own return temperature is no matter", z.bestReturn(1), 300);
        due("and stays", z.station(1, 1), 333);
        HeatNetwork none = new HeatNetwork();
        none.addStation(1, 99, 600, 999);
        due("not connected", none.bestReturn(1), 200);
    }

    private static void noHeat() {
        thrown("nothing is there", ARITHMETIC, () -> new HeatNetwork().efficiency());
        thrown("nothing is wanted", ARITHMETIC, () -> still(900, 9, 200, 300, 9).efficiency());
        thrown("it is too cold", ARITHMETIC, () -> still(649, 9, 0, 600, 9).efficiency());
        due("the least that is wanted", still(900, 1, 199, 300, 9).efficiency(), 1.0);
        due("below 0", belowNothing().efficiency() < 0, true);
        HeatNetwork x = oneStation();
        due("1812 / 2548", x.efficiency(), 1812.0 / 2548.0);
        x.removePipe(0);
        thrown("not connected", ARITHMETIC, () -> x.efficiency());
    }

    private static void lastPromises() {
        Sentence.says("Promise 31", "Returns the node of the station whose meter differs most from its true heat, of "
                + "several the lowest one.", () -> suspects());
        Sentence.says("Promise 31", "Throws NoSuchElementException if there are no stations", () -> {
            thrown("suspect() of nothing", ELEMENT, () -> new HeatNetwork().suspect());
            HeatNetwork x = new HeatNetwork();
            x.addStation(9, 1, 200, 1);
            due("suspect() of one", x.suspect(), 9);
        });
        Sentence.says("Promise 32", "Returns the heat that would be made in an hour if a station had another return "
                + "temperature.", () -> {
            due("one that is too warm makes none", still(649, 9, 0, 300, 9).trial(1, 600), 0);
            due("1800 / 50 is at most 9", still(650, 9, 0, 300, 9).trial(1, 600), 450);
            HeatNetwork y = new HeatNetwork();
            y.addStation(1, 1, 200, 1);
            due("one that is not connected makes none", y.trial(1, 300), 0);
            HeatNetwork z = still(900, 9, 0, 300, 9);
            z.setSetting(4, 1);
            due("a head that is too great is no matter", z.trial(1, 400), 4 * 500);
        });
        Sentence.says("Promise 33", "Returns the return temperature, of all that are possible in steps of 50 from 200 "
                + "on, with which a station would pay least in an hour as its meter counts, of several the lowest one.",
                () -> bestReturns());
        Sentence.says("Promise 35", "Throws ArithmeticException if no heat is made", () -> noHeat());
        Sentence.says("Promise 36", "Returns the temperature as a float, divided by 10.", () -> {
            due("without a flow", new HeatNetwork().returnDegrees(), 10.0f);
            due("the greatest", still(650, 9, 0, 600, 9).returnDegrees(), 60.0f);
            due("60.0 less a tenth", still(650, 9, 0, 599, 9).returnDegrees(), 59.9f);
            due("the least with a flow", still(650, 9, 0, 200, 9).returnDegrees(), 20.0f);
        });
        Sentence.says("Accounts", "The heat that is made is the sum of the heat of all stations and of all that is "
                + "lost.", () -> {
            balanced("nothing", new HeatNetwork());
            balanced("a station", oneStation());
            balanced("two", twoStations());
            HeatNetwork x = triangle();
            x.setSetting(3, 99);
            balanced("a triangle", x);
            balanced("heat below 0", belowNothing());
            HeatNetwork y = fullOfPipes();
            y.setSetting(3, 7);
            for (int node = 1; node < 10; node++) {
                y.addStation(node, 11 * node, 200 + 40 * node, 5 * node);
            }
            balanced("all places taken", y);
        });
    }

    static void all() {
        stationFlows();
        pipeFlows();
        temperatures();
        rounds();
        allHeads();
        allMeters();
        lastPromises();
    }

    public static void main(String[] arguments) {
        all();
        Check.end("BoundaryHourTest");
    }
}
