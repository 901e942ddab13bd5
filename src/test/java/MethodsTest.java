/** The promises from the first to the last, as far as no other test quotes them: sentence by sentence, by hand. */
public final class MethodsTest extends ByHand {
    private static final String NO_STATION =
            "Throws NoSuchElementException if there is no station at the node, or no such node";
    private static final String NO_PIPE = "Throws IndexOutOfBoundsException if there is no such pipe";
    private static final String NO_NODE = "Throws IndexOutOfBoundsException if there is no such node";
    private static final String NOT_CONNECTED =
            "Throws NoSuchElementException if the node is not connected, or there is no such node";

    private MethodsTest() {
    }

    /** A call with one number, on a network that it does not matter to make anew for each. */
    interface Asked {
        Object of(HeatNetwork x, int number);
    }

    /** The call must end so at all nodes that there are not. */
    private static void atNoNode(Class<? extends RuntimeException> want, Asked call) {
        for (int node : NO_NODES) {
            thrown("node " + node, want, () -> call.of(fork(), node));
        }
    }

    /** The call must end so at the plant, at nodes without a station, behind a station that is gone, and at no node. */
    private static void atNoStation(Asked call) {
        for (int node : new int[] {0, 1, 4, 9}) {
            thrown("no station at " + node, ELEMENT, () -> call.of(fork(), node));
        }
        HeatNetwork x = fork();
        x.removeStation(2);
        thrown("the station is gone", ELEMENT, () -> call.of(x, 2));
        atNoNode(ELEMENT, call);
    }

    private static void atNoPipe(Asked call) {
        for (int pipe : noPipes(3)) {
            thrown("pipe " + pipe, INDEX, () -> call.of(fork(), pipe));
        }
        HeatNetwork x = fork();
        x.removePipe(0);
        thrown("the last pipe has a lower number now", INDEX, () -> call.of(x, 2));
        thrown("a network without pipes", INDEX, () -> call.of(new HeatNetwork(), 0));
    }

    private static void notConnected(Asked call) {
        for (int node = 4; node < 10; node++) {
            int alone = node;
            thrown("node " + node + " alone", ELEMENT, () -> call.of(fork(), alone));
        }
        HeatNetwork x = fork();
        x.removePipe(0);
        for (int node = 1; node < 4; node++) {
            int cut = node;
            thrown("node " + node + " is cut off", ELEMENT, () -> call.of(x, cut));
        }
        atNoNode(ELEMENT, call);
    }

    // ---- Promises 1 to 10: what makes and changes a network

    private static void settings() {
        Sentence.says("Promise 2", "Sets a setting. - setting: the setting - value: the value", () -> {
            HeatNetwork x = fork();
            x.setSetting(0, 1200);
            due("supply: 100 + 1100 * 4 / 5", x.temperature(1, false), 980);
            x.setSetting(1, 0);
            due("ground: 1200 * 4 / 5", x.temperature(1, false), 960);
            x.setSetting(2, 150);
            due("outdoor: 99 * 50", x.station(2, 5), 4950);
            x.setSetting(3, 0);
            due("loss", x.temperature(1, false), 1200);
            x.setSetting(4, 1);
            refused("greatest head", 7, x, () -> x.hours(1));
            x.setSetting(5, 107);
            due("price: 107 - 100", x.station(2, 7), 7);
            x.setSetting(6, 3);
            due("rate: 107 - 60", x.station(2, 7), 47);
            int[] values = {1200, 0, 150, 0, 1, 107, 3};
            for (int i = 0; i < 7; i++) {
                due("setting(" + i + ")", x.setting(i), values[i]);
            }
        });
        Sentence.says("Promise 3", "Returns a setting. - setting: the setting Returns the value.", () -> {
            HeatNetwork x = new HeatNetwork();
            int[] first = {900, 100, 0, 10, 50000000, 100, 5};
            int[] other = {601, 2, -3, 4, 5, 6, 7};
            for (int i = 0; i < 7; i++) {
                due("at first, setting(" + i + ")", x.setting(i), first[i]);
            }
            for (int i = 0; i < 7; i++) {
                x.setSetting(i, other[i]);
            }
            for (int i = 0; i < 7; i++) {
                due("behind setSetting, setting(" + i + ")", x.setting(i), other[i]);
            }
            runText(x, "t2=-299;t4=009;");
            due("behind run, setting(2)", x.setting(2), -299);
            due("behind run, setting(4)", x.setting(4), 9);
            x.undo();
            due("behind undo, setting(2)", x.setting(2), -3);
        });
    }

    private static void pipes() {
        Sentence.says("Promise 4", "Adds a pipe. - one: a node - other: the other node - length: the length - "
                + "roughness: the roughness", () -> {
            HeatNetwork x = new HeatNetwork();
            x.setSetting(3, 0);
            x.addPipe(5, 3, 71, 2);
            x.addPipe(3, 0, 8, 9);
            int[][] pipes = {{5, 3, 71, 2, 0}, {3, 0, 8, 9, 0}};
            for (int pipe = 0; pipe < 2; pipe++) {
                for (int what = 0; what < 5; what++) {
                    due("pipe(" + pipe + ", " + what + ")", x.pipe(pipe, what), pipes[pipe][what]);
                }
            }
            due("part(0)", x.part(0), 1 + 8 + 32);
            due("distance(5)", x.distance(5), 2);
            x.addStation(5, 1, 200, 1);
            due("the resistances: 72 + 142", x.head(5), 214);
        });
        Sentence.says("Promise 5", "Removes a pipe. The numbers of later pipes decrease by 1. - pipe: the pipe", () -> {
            HeatNetwork x = fork();
            x.setSetting(3, 0);
            due("removePipe(1)", x.removePipe(1), 2);
            due("pipe 2 is number 1: its flow", x.flow(1), 1);
            due("its end", x.pipe(1, 1), 3);
            due("its length", x.pipe(1, 2), 2);
            due("its roughness", x.pipe(1, 3), 2);
            due("its direction", x.direction(1), '+');
            due("pipe 0 is still number 0", x.pipe(0, 3), 1);
            due("the station at node 2 stays", x.station(2, 0), 99);
            due("but is not connected", x.station(2, 6), 0);
            due("part(2)", x.part(2), 4);
        });
        Sentence.says("Promise 5", NO_PIPE, () -> {
            atNoPipe((x, pipe) -> x.removePipe(pipe));
            HeatNetwork x = fork();
            thrown("removePipe(3)", INDEX, () -> x.removePipe(3));
            due("none is removed", x.count(0), 3);
            due("the last one can be", x.removePipe(2), 2);
            due("the first one can be", x.removePipe(0), 1);
            due("and what is the only one then", x.removePipe(0), 0);
        });
    }

    private static void stations() {
        Sentence.says("Promise 6", "Makes a station, with the meter at 0 and without a fault. - node: the node - "
                + "size: the size - returnTemperature: the return temperature - greatestFlow: the greatest flow",
                () -> {
            HeatNetwork x = new HeatNetwork();
            x.addStation(7, 81, 432, 765);
            x.addStation(9, 1, 599, 2);
            int[][] stations = {{81, 432, 765, 0, 1000, 16200, 0, 116}, {1, 599, 2, 0, 1000, 200, 0, 199}};
            for (int what = 0; what < 8; what++) {
                due("station(7, " + what + ")", x.station(7, what), stations[0][what]);
                due("station(9, " + what + ")", x.station(9, what), stations[1][what]);
            }
            due("meter(7, 0)", x.meter(7, 0), 0);
            due("meter(9, 0)", x.meter(9, 0), 0);
        });
        Sentence.says("Promise 7", "Removes a station with its meter and its bills. - node: the node", () -> {
            HeatNetwork x = fork();
            x.hours(5);
            x.removeStation(3);
            thrown("the station is gone", ELEMENT, () -> x.station(3, 0));
            thrown("its meter is gone", ELEMENT, () -> x.meter(3, 0));
            thrown("its bills are gone", ELEMENT, () -> x.meter(3, 2));
            due("what it paid stays in the account", x.account(7), 30);
            due("the other one is there", x.station(2, 0), 99);
            x.addStation(3, 99, 300, 1);
            due("a new meter", x.meter(3, 0), 0);
            due("a new true heat", x.meter(3, 1), 0);
            due("new bills", x.meter(3, 2), 0);
        });
        Sentence.says("Promise 8", "Sets the return temperature of a station. - node: the node - returnTemperature: "
                + "the return temperature", () -> {
            HeatNetwork x = fork();
            x.setReturn(2, 400);
            due("station(2, 1)", x.station(2, 1), 400);
            due("the other one's stays", x.station(3, 1), 300);
            due("3 * (580 - 400)", x.meter(2, 3), 540);
            // 100 + 300 * 3 / 4 = 325 comes back to node 1: (3 * 325 + 1 * 200) / 4
            due("temperature(1, true)", x.temperature(1, true), 293);
            due("the tariff", x.station(2, 7), 100);
        });
        Sentence.says("Promise 8", NO_STATION, () -> {
            atNoStation((x, node) -> x.setReturn(node, 300));
            atNoStation((x, node) -> x.setReturn(node, 601));
        });
        Sentence.says("Promise 8", "Throws IllegalArgumentException if the temperature is out of range", () -> {
            HeatNetwork x = fork();
            for (int value : new int[] {199, 601, 0, -1, 65536 + 300, FAR, FAR_BELOW}) {
                thrown("setReturn(2, " + value + ")", ARGUMENT, () -> x.setReturn(2, value));
                due("it stays", x.station(2, 1), 200);
            }
            due("setReturn(2, 200)", x.setReturn(2, 200), 200);
            due("setReturn(2, 600)", x.setReturn(2, 600), 200);
        });
    }

    private static void meters() {
        Sentence.says("Promise 9", "Sets the fault of a meter. - node: the node - fault: the fault - thousandths: the "
                + "thousandths, kept also for the faults 0 and 1 Returns the fault before.", () -> {
            HeatNetwork x = fork();
            due("setMeter(2, 2, 7)", x.setMeter(2, 2, 7), 0);
            due("setMeter(2, 1, 8)", x.setMeter(2, 1, 8), 2);
            due("thousandths for the fault 1", x.station(2, 4), 8);
            due("setMeter(2, 0, 9)", x.setMeter(2, 0, 9), 1);
            due("thousandths for the fault 0", x.station(2, 4), 9);
            due("setMeter(2, 0, 10)", x.setMeter(2, 0, 10), 0);
            due("the other one's fault stays", x.station(3, 3), 0);
            due("the other one's thousandths stay", x.station(3, 4), 1000);
            x.setMeter(3, 2, 250);
            x.hours(1);
            due("the fault 0 counts all", x.meter(2, 0), 1140);
            due("120 * 250 / 1000", x.meter(3, 0), 30);
        });
        Sentence.says("Promise 9", NO_STATION, () -> {
            atNoStation((x, node) -> x.setMeter(node, 0, 1000));
            atNoStation((x, node) -> x.setMeter(node, 3, 1000));
            atNoStation((x, node) -> x.setMeter(node, 0, 2001));
        });
        Sentence.says("Promise 10", "Lets hours go by. - count: how many, 1 to 24", () -> {
            HeatNetwork x = fork();
            for (int count = 1; count <= 24; count++) {
                due("hours(" + count + ")", x.hours(count), count * (count + 1) / 2);
            }
            due("300 hours in all", x.account(4), 300);
            due("each of them is made", x.account(5), 300 * 2944);
            thrown("hours(0)", ARGUMENT, () -> x.hours(0));
            thrown("hours(25)", ARGUMENT, () -> x.hours(25));
            due("no hour more", x.account(4), 300);
        });
    }

    // ---- Promises 11 to 14: texts and reasons

    private static void texts() {
        Sentence.says("Promise 11", "Appends a character to the text buffer. - character: the code of the character, "
                + "32 to 126", () -> {
            HeatNetwork x = new HeatNetwork();
            int appended = 0;
            for (int code : new int[] {32, 126, 'x', '5', ';', 33, 125}) {
                appended++;
                due("append(" + code + ")", x.append(code), appended);
            }
            for (int code : new int[] {31, 127, 0, -1, 65536 + 'x', FAR, FAR_BELOW}) {
                thrown("append(" + code + ")", ARGUMENT, () -> x.append(code));
            }
            due("count(5)", x.count(5), 7);
            thrown("run()", ARGUMENT, () -> x.run());
            due("the first character was the first one appended", x.faultPosition(), 0);
            write(x, "h1");
            x.append(';');
            due("what was appended is read", x.run(), 1);
            due("an hour", x.account(4), 1);
        });
        Sentence.says("Promise 12", "Reads the text buffer as a text and carries out its definitions in their order, "
                + "all or none of them. The buffer is empty then, also if an exception is thrown.", () -> {
            HeatNetwork x = new HeatNetwork();
            due("a station, its removal, a station", runText(x, "s1:1,200,1;x1;s1:2,200,1;"), 3);
            due("the last one stays", x.station(1, 0), 2);
            write(x, "x1;s1:3,200,1;x1;x1;");
            refused("the last definition is refused", 6, x, () -> x.run());
            due("none is carried out", x.station(1, 0), 2);
            due("the buffer is empty", x.count(5), 0);
            due("and begins anew", x.append('h'), 1);
            thrown("the text ends too early", ARGUMENT, () -> x.run());
            due("the buffer is empty", x.count(5), 0);
            due("the fault is in the new text", x.faultPosition(), 1);
        });
        Sentence.says("Promise 13", "Returns the fault position of the text of the latest call of run. Returns the "
                + "fault position, or -1 if that text had no fault or run has not been called.", () -> {
            HeatNetwork x = new HeatNetwork();
            due("run has not been called", x.faultPosition(), -1);
            write(x, "h1;h2");
            due("still not", x.faultPosition(), -1);
            thrown("run()", ARGUMENT, () -> x.run());
            due("the text ends too early", x.faultPosition(), 5);
            write(x, "t0+");
            due("another text is no call", x.faultPosition(), 5);
            thrown("run()", ARGUMENT, () -> x.run());
            due("the latest call", x.faultPosition(), 2);
            write(x, "x1;");
            refused("run()", 6, x, () -> x.run());
            due("a text that is refused has no fault", x.faultPosition(), -1);
        });
        Sentence.says("Promise 14", "Returns the reason for which something was refused last. Returns the reason, 1 to "
                + "7.", () -> {
            HeatNetwork x = fork();
            refused("addPipe(0, 10, 1, 1)", 1, x, () -> x.addPipe(0, 10, 1, 1));
            refused("addPipe(0, 3, 100, 1)", 2, x, () -> x.addPipe(0, 3, 100, 1));
            refused("addPipe(2, 1, 1, 1)", 3, x, () -> x.addPipe(2, 1, 1, 1));
            HeatNetwork full = fullOfPipes();
            refused("addPipe(0, 5, 1, 1)", 4, full, () -> full.addPipe(0, 5, 1, 1));
            x.addPipe(2, 3, 1, 1);
            refused("addPipe(0, 3, 1, 1)", 5, x, () -> x.addPipe(0, 3, 1, 1));
            refused("removeStation(1)", 6, x, () -> x.removeStation(1));
            x.setSetting(4, 1);
            refused("hours(1)", 7, x, () -> x.hours(1));
            thrown("a failure that is no refusal", INDEX, () -> x.flow(10));
            due("the reason stays", x.refusal(), 7);
            write(x, "p0-0:1,1;");
            refused("run()", 3, x, () -> x.run());
        });
    }

    // ---- Promises 15 to 19: what is told of pipes and stations

    private static void tellsPipes() {
        Sentence.says("Promise 15", "Returns a number of a pipe. - pipe: the pipe - what: 0 for its first node as it "
                + "was told, 1 for the other one, 2 for its length, 3 for its roughness, 4 for 1 if it is part of the "
                + "loop of the part of the plant, otherwise 0 Returns the number.", () -> {
            HeatNetwork x = ring();
            x.addPipe(4, 1, 77, 6);
            x.addPipe(3, 4, 99, 1);
            int[][] pipes = {{0, 2, 2, 1, 1}, {2, 1, 2, 1, 1}, {1, 0, 2, 1, 1}, {4, 1, 77, 6, 0}, {3, 4, 99, 1, 0}};
            for (int pipe = 0; pipe < 5; pipe++) {
                for (int what = 0; what < 5; what++) {
                    due("pipe(" + pipe + ", " + what + ")", x.pipe(pipe, what), pipes[pipe][what]);
                }
            }
            x.removePipe(1);
            due("the loop is open", x.pipe(0, 4) + x.pipe(1, 4), 0);
        });
        Sentence.says("Promise 15", NO_PIPE, () -> {
            for (int what = -1; what < 6; what++) {
                int asked = what;
                atNoPipe((x, pipe) -> x.pipe(pipe, asked));
            }
        });
        Sentence.says("Promise 18", "Returns the flow of a pipe. - pipe: the pipe Returns the flow, above 0 from its "
                + "first node as it was told to the other one, below 0 in the opposite direction.", () -> {
            HeatNetwork x = fork();
            int[] flows = {4, -3, 1};
            int[] round = {2, -2, -3};
            for (int pipe = 0; pipe < 3; pipe++) {
                due("flow(" + pipe + ")", x.flow(pipe), flows[pipe]);
                due("in the ring", ring().flow(pipe), round[pipe]);
            }
            x.removeStation(3);
            due("4 - 1", x.flow(0), 3);
            due("none", x.flow(2), 0);
        });
        Sentence.says("Promise 18", NO_PIPE, () -> atNoPipe((x, pipe) -> x.flow(pipe)));
        Sentence.says("Promise 19", "Returns in which direction a pipe carries hot water. - pipe: the pipe Returns + "
                + "from its first node as it was told to the other one, - in the opposite direction, or 0 without a "
                + "flow.", () -> {
            HeatNetwork x = fork();
            due("direction(0)", x.direction(0), '+');
            due("direction(1)", x.direction(1), '-');
            due("direction(2)", x.direction(2), '+');
            x.removeStation(2);
            // 1 arrives at 500 at node 1 and at 300 at node 3, less than 350: then nothing, then all anew
            due("without a flow", x.direction(1), '0');
            due("+ or - is no number", (int) ring().direction(0), 43);
            due("+ or - is no number", (int) ring().direction(1), 45);
        });
        Sentence.says("Promise 19", NO_PIPE, () -> atNoPipe((x, pipe) -> x.direction(pipe)));
    }

    private static void tellsStations() {
        Sentence.says("Promise 16", "Returns a number of a station. - node: the node - what: 0 for its size, 1 for its "
                + "return temperature, 2 for its greatest flow, 3 for the fault of its meter, 4 for its thousandths, "
                + "1000 at first, 5 for the heat that it wants, 6 for its flow, 7 for its tariff Returns the number.",
                () -> {
            HeatNetwork x = fork();
            int[][] first = {{99, 200, 3, 0, 1000, 19800, 3, 0}, {99, 300, 1, 0, 1000, 19800, 1, 50}};
            for (int what = 0; what < 8; what++) {
                due("station(2, " + what + ")", x.station(2, what), first[0][what]);
                due("station(3, " + what + ")", x.station(3, what), first[1][what]);
            }
            x.setMeter(3, 2, 456);
            x.setReturn(3, 301);
            x.setSetting(2, -1);
            // 100 + 5 * -99 / 10, rounded down
            int[] then = {99, 301, 1, 2, 456, 99 * 201, 1, 50};
            for (int what = 0; what < 8; what++) {
                due("then station(3, " + what + ")", x.station(3, what), then[what]);
            }
        });
        Sentence.says("Promise 16", NO_STATION, () -> {
            for (int what = -1; what < 9; what++) {
                int asked = what;
                atNoStation((x, node) -> x.station(node, asked));
            }
        });
        Sentence.says("Promise 17", "Returns a long number of a station. - node: the node - what: 0 for its meter, 1 "
                + "for its true heat, 2 for the sum of all that it has paid, 3 for its heat in an hour as things are "
                + "Returns the number.", () -> {
            HeatNetwork x = fork();
            x.setMeter(3, 2, 1500);
            x.hours(2);
            x.setSetting(5, 101);
            x.hours(1);
            x.setReturn(3, 320);
            // 180 * 50 / 1000 = 9 in two hours, 180 * 51 / 1000 = 9 in one
            long[] third = {3 * 180, 3 * 120, 27, 100};
            long[] second = {3 * 1140, 3 * 1140, 1, 1140};
            for (int what = 0; what < 4; what++) {
                due("meter(3, " + what + ")", x.meter(3, what), third[what]);
                due("meter(2, " + what + ")", x.meter(2, what), second[what]);
            }
            HeatNetwork y = chainOfTen();
            y.setSetting(0, 1200);
            y.addStation(9, 99, 200, 999);
            y.setSetting(2, -300);
            y.setMeter(9, 2, 2000);
            // 49500 / 1000 = 50 units, 50000 of heat, 100000 are counted
            for (int i = 0; i < 400; i++) {
                y.hours(24);
            }
            due("more than an int holds is true", y.meter(9, 1), 9600 * 50000L);
            due("and metered", y.meter(9, 0), 9600 * 100000L);
            for (int i = 0; i < 90; i++) {
                y.hours(24);
            }
            due("490 days", y.meter(9, 0), 490 * 24 * 100000L);
        });
        Sentence.says("Promise 17", NO_STATION, () -> {
            for (int what = -1; what < 5; what++) {
                int asked = what;
                atNoStation((x, node) -> x.meter(node, asked));
            }
        });
    }

    // ---- Promises 20 to 26: what is told of the state

    private static void tellsNodes() {
        Sentence.says("Promise 20", "Returns a temperature of a node. Nodes that are not connected have the ground "
                + "temperature. - node: the node - isReturn: whether the return temperature is meant Returns the "
                + "temperature.", () -> {
            HeatNetwork x = fork();
            int[] hot = {900, 740, 580, 420, 100, 100};
            int[] cool = {164, 181, 200, 300, 100, 100};
            for (int node = 0; node < 6; node++) {
                due("temperature(" + node + ", false)", x.temperature(node, false), hot[node]);
                due("temperature(" + node + ", true)", x.temperature(node, true), cool[node]);
            }
            x.addPipe(8, 9, 1, 1);
            x.addStation(9, 99, 200, 9);
            due("in another part", x.temperature(9, false), 100);
            due("in another part, return", x.temperature(9, true), 100);
        });
        Sentence.says("Promise 20", NO_NODE, () -> {
            atNoNode(INDEX, (x, node) -> x.temperature(node, false));
            atNoNode(INDEX, (x, node) -> x.temperature(node, true));
        });
        Sentence.says("Promise 21", "Returns the heat that a pipe loses in an hour. - pipe: the pipe Returns the heat.",
                () -> {
            long[] lost = {708, 555, 420};
            long[] round = {602, 468, 660};
            HeatNetwork x = fork();
            x.hours(5);
            for (int pipe = 0; pipe < 3; pipe++) {
                due("loss(" + pipe + ")", x.loss(pipe), lost[pipe]);
                due("in the ring", ring().loss(pipe), round[pipe]);
            }
            x.removePipe(0);
            due("in another part", x.loss(0), 0);
        });
        Sentence.says("Promise 21", NO_PIPE, () -> atNoPipe((x, pipe) -> x.loss(pipe)));
        Sentence.says("Promise 22", "Returns the heat that a node loses by rounding in an hour. - node: the node "
                + "Returns the heat.", () -> {
            long[] left = {3, 1, 2, 0, 0, 0, 0, 0, 0, 0};
            HeatNetwork x = ring();
            x.hours(5);
            for (int node = 0; node < 10; node++) {
                due("rounding(" + node + ")", x.rounding(node), left[node]);
            }
            due("of hot water and of what comes back: 5 + 0", mixed().rounding(3), 5);
            x.removeStation(2);
            x.removeStation(1);
            due("without a flow", x.rounding(0) + x.rounding(1) + x.rounding(2), 0);
        });
        Sentence.says("Promise 22", NO_NODE, () -> atNoNode(INDEX, (x, node) -> x.rounding(node)));
    }

    /** Node 3 of the triangle gets 3 at 536 and 5 at 665. */
    private static HeatNetwork mixed() {
        HeatNetwork x = triangle();
        x.setSetting(3, 99);
        return x;
    }

    private static void tellsHeads() {
        Sentence.says("Promise 23", "Returns the head of a node. - node: the node Returns the head.", () -> {
            long[] heads = {0, 32, 86, 36};
            long[] round = {0, 18, 26};
            for (int node = 0; node < 4; node++) {
                due("head(" + node + ")", fork().head(node), heads[node]);
            }
            for (int node = 0; node < 3; node++) {
                due("in the ring, head(" + node + ")", ring().head(node), round[node]);
            }
            HeatNetwork x = new HeatNetwork();
            x.setSetting(3, 0);
            x.setSetting(0, 650);
            x.setSetting(2, -300);
            x.addPipe(0, 1, 99, 9);
            x.addStation(1, 99, 600, 990);
            due("891 * 990 * 990", x.head(1), 873269100);
            x.addPipe(1, 2, 99, 9);
            x.addStation(2, 99, 600, 990);
            due("more than an int holds: 891 * 1980 * 1980", x.head(1), 3493076400L);
            due("and 891 * 990 * 990 more", x.head(2), 4366345500L);
        });
        Sentence.says("Promise 23", NOT_CONNECTED, () -> notConnected((x, node) -> x.head(node)));
        Sentence.says("Promise 24", "Returns the head that is needed. Returns the head.", () -> {
            HeatNetwork x = fork();
            due("at node 2", x.neededHead(), 86);
            x.removeStation(2);
            x.setSetting(3, 0);
            due("at node 3: 2 + 4", x.neededHead(), 6);
            x.removeStation(3);
            due("at none", x.neededHead(), 0);
            due("in the ring", ring().neededHead(), 26);
        });
        Sentence.says("Promise 25", "Returns the imbalance of the loop. Returns the imbalance.", () -> {
            due("2 * (9 + 4 - 4)", ring().imbalance(), 18);
            HeatNetwork x = ring();
            x.removeStation(2);
            due("2 * (1 + 0 + 0)", x.imbalance(), 2);
            x.removeStation(1);
            due("nothing", x.imbalance(), 0);
        });
        Sentence.says("Promise 26", "Returns the number of rounds in which the state was found, the last one included. "
                + "Returns the number.", () -> {
            due("two alike", fork().rounds(), 2);
            due("3, 5, 4, 4", oneStation().rounds(), 4);
            HeatNetwork x = oneStation();
            x.setReturn(1, 500);
            due("5, 7, 6, 7, 6 and so on", x.rounds(), 12);
            x.setReturn(1, 300);
            due("as before", x.rounds(), 4);
            x.removeStation(1);
            due("nothing, nothing", x.rounds(), 2);
            x.addStation(1, 9, 300, 3);
            due("3, 3", x.rounds(), 2);
        });
    }

    // ---- Promises 27 to 30: what is told of the shape

    private static void tellsShape() {
        Sentence.says("Promise 27", "Returns a node of the loop of the part of the plant, from its beginning on in the "
                + "order in which it goes. - index: the index, from 0 Returns the node.", () -> {
            HeatNetwork x = new HeatNetwork();
            int[][] ends = {{7, 4}, {4, 2}, {2, 9}, {9, 5}, {5, 7}, {0, 3}, {3, 5}};
            for (int[] pipe : ends) {
                x.addPipe(pipe[0], pipe[1], 1, 1);
            }
            int[] round = {5, 7, 4, 2, 9};
            for (int i = 0; i < 5; i++) {
                due("loop(" + i + ")", x.loop(i), round[i]);
            }
            x.removePipe(6);
            x.addPipe(3, 4, 1, 1);
            int[] other = {4, 2, 9, 5, 7};
            for (int i = 0; i < 5; i++) {
                due("from node 4, loop(" + i + ")", x.loop(i), other[i]);
            }
            for (int index : new int[] {-1, 5, 10, 65536, FAR, FAR_BELOW}) {
                thrown("loop(" + index + ")", ELEMENT, () -> x.loop(index));
            }
        });
        Sentence.says("Promise 28", "Returns the least number of pipes from the plant to a node. - node: the node "
                + "Returns the number.", () -> {
            HeatNetwork x = fullOfPipes();
            int[] least = {0, 1, 2, 3, 4, 5, 4, 3, 2, 1};
            for (int node = 0; node < 10; node++) {
                due("distance(" + node + ")", x.distance(node), least[node]);
            }
            x.removePipe(9);
            for (int node = 0; node < 10; node++) {
                due("the loop is open, distance(" + node + ")", x.distance(node), node);
            }
            due("not by length: fork", fork().distance(3), 2);
        });
        Sentence.says("Promise 28", NOT_CONNECTED, () -> notConnected((x, node) -> x.distance(node)));
        Sentence.says("Promise 29", "Returns the part of the network in which a node is. - node: the node Returns the "
                + "set of its nodes, bit n for node n.", () -> {
            HeatNetwork x = fork();
            x.addPipe(9, 5, 1, 1);
            int[] parts = {15, 15, 15, 15, 16, 544, 64, 128, 256, 544};
            for (int node = 0; node < 10; node++) {
                due("part(" + node + ")", x.part(node), parts[node]);
            }
            x.addPipe(5, 3, 1, 1);
            due("joined", x.part(9), 559);
            x.removePipe(0);
            due("cut", x.part(9), 558);
            due("the plant alone", x.part(0), 1);
        });
        Sentence.says("Promise 29", NO_NODE, () -> atNoNode(INDEX, (x, node) -> x.part(node)));
        Sentence.says("Promise 30", "Returns whether a node is connected. - node: the node Returns whether it is.",
                () -> {
            HeatNetwork x = fork();
            x.addPipe(8, 9, 1, 1);
            for (int node = 0; node < 10; node++) {
                due("isConnected(" + node + ")", x.isConnected(node), node < 4);
            }
            x.addPipe(8, 3, 1, 1);
            due("isConnected(9) by a way of four pipes", x.isConnected(9), true);
            x.removePipe(0);
            for (int node = 0; node < 10; node++) {
                due("cut, isConnected(" + node + ")", x.isConnected(node), node == 0);
            }
        });
        Sentence.says("Promise 30", NO_NODE, () -> atNoNode(INDEX, (x, node) -> x.isConnected(node)));
    }

    // ---- Promises 31 to 37: what is reckoned

    private static void reckons() {
        Sentence.says("Promise 31", "Returns the node of the station whose meter differs most from its true heat, of "
                + "several the lowest one. Returns the node.", () -> {
            HeatNetwork x = fork();
            due("none differs", x.suspect(), 2);
            x.setMeter(3, 2, 2000);
            x.hours(1);
            due("120 too much at node 3", x.suspect(), 3);
            x.setMeter(2, 2, 900);
            x.hours(1);
            due("240 at node 3, 114 at node 2", x.suspect(), 3);
            x.setMeter(3, 2, 500);
            x.hours(2);
            due("120 at node 3, 342 at node 2", x.suspect(), 2);
        });
        Sentence.says("Promise 32", "Returns the heat that would be made in an hour if a station had another return "
                + "temperature. - node: the node - returnTemperature: the return temperature Returns the heat.", () -> {
            HeatNetwork x = fork();
            due("as things are", x.trial(2, 200), 2944);
            // 100 + 300 * 3 / 4 = 325 and 200 at node 1: 1175 / 4 = 293; 100 + 193 * 4 / 5 = 254
            due("400 at node 2: 4 * (900 - 254)", x.trial(2, 400), 2584);
            // 100 + 100 / 2 = 150 and 175: 675 / 4 = 168; 100 + 68 * 4 / 5 = 154
            due("200 at node 3: 4 * (900 - 154)", x.trial(3, 200), 2984);
            // 420 is less than 450: then only 3 go, to node 1 at 100 + 800 * 3 / 4 = 700, to node 2 at 550;
            // 175 comes back to node 1, 100 + 75 * 3 / 4 = 156 to the plant
            due("400 at node 3: 3 * (900 - 156)", x.trial(3, 400), 2232);
            due("as it was", x.account(0), 2944);
            due("as it was", x.station(3, 1), 300);
        });
        Sentence.says("Promise 32", NO_STATION, () -> {
            atNoStation((x, node) -> x.trial(node, 300));
            atNoStation((x, node) -> x.trial(node, 199));
        });
        Sentence.says("Promise 32", "Throws IllegalArgumentException if the temperature is out of range", () -> {
            HeatNetwork x = fork();
            for (int value : new int[] {199, 601, 0, -1, 65536 + 300, FAR, FAR_BELOW}) {
                thrown("trial(2, " + value + ")", ARGUMENT, () -> x.trial(2, value));
            }
            due("trial(2, 200)", x.trial(2, 200), 2944);
            // 580 is less than 650: then only 1 goes, which is 500 at node 1 and 300 at node 3: less than 350;
            // then nothing goes, and 100 is less than any; so it stays
            due("trial(2, 600)", x.trial(2, 600), 0);
        });
        Sentence.says("Promise 33", "Returns the return temperature, of all that are possible in steps of 50 from 200 "
                + "on, with which a station would pay least in an hour as its meter counts, of several the lowest "
                + "one. - node: the node Returns the return temperature.", () -> {
            HeatNetwork x = fork();
            x.setSetting(5, 999);
            x.setSetting(6, 0);
            // 3 * (580 - r) is paid for up to r = 500; 550 and 600 are more than 580 - 50, so nothing is drawn
            due("nothing is drawn at 550", x.bestReturn(2), 550);
            due("nothing is drawn at 400 at node 3", x.bestReturn(3), 400);
            x.setMeter(2, 1, 1000);
            due("nothing is counted", x.bestReturn(2), 200);
            x.setSetting(5, 0);
            due("nothing is paid", x.bestReturn(3), 200);
        });
        Sentence.says("Promise 33", NO_STATION, () -> atNoStation((x, node) -> x.bestReturn(node)));
    }

    private static void tellsAccounts() {
        Sentence.says("Promise 34", "Returns an account. - what: 0 for the heat that is made in an hour as things "
                + "are, 1 for the heat of all stations, 2 for what all pipes lose, 3 for what all nodes lose by "
                + "rounding, each likewise; 4 for the hours that went by, 5 for the heat that was made in all of "
                + "them, 6 for the heat of all stations in all of them, 7 for all that was paid in them, also at "
                + "stations that are removed Returns the number.", () -> {
            HeatNetwork x = ring();
            x.setSetting(6, 0);
            long[] now = {3700, 1964, 1730, 6, 0, 0, 0, 0};
            for (int what = 0; what < 8; what++) {
                due("account(" + what + ")", x.account(what), now[what]);
            }
            x.hours(3);
            // 500 * 100 / 1000 = 50 and 1464 * 100 / 1000 = 146
            long[] then = {3700, 1964, 1730, 6, 3, 11100, 5892, 588};
            for (int what = 0; what < 8; what++) {
                due("behind three hours, account(" + what + ")", x.account(what), then[what]);
            }
            x.removeStation(1);
            x.removeStation(2);
            x.hours(2);
            long[] last = {0, 0, 0, 0, 5, 11100, 5892, 588};
            for (int what = 0; what < 8; what++) {
                due("without stations, account(" + what + ")", x.account(what), last[what]);
            }
        });
        Sentence.says("Promise 35", "Returns the heat of all stations in an hour as things are, divided by the heat "
                + "that is made. Returns the quotient, both as doubles.", () -> {
            due("fork", fork().efficiency(), 1260.0 / 2944.0);
            due("ring", ring().efficiency(), 1964.0 / 3700.0);
            HeatNetwork x = twoStations();
            x.removeStation(2);
            due("all that is made is given", x.efficiency(), 1.0);
            x.hours(4);
            due("of an hour, not of all", x.efficiency(), 1.0);
        });
        Sentence.says("Promise 36", "Returns the return temperature of the plant in degrees. Returns the temperature "
                + "as a float, divided by 10.", () -> {
            due("fork", fork().returnDegrees(), 16.4f);
            due("ring", ring().returnDegrees(), 16.0f);
            due("without a flow", new HeatNetwork().returnDegrees(), 10.0f);
        });
        Sentence.says("Promise 37", "Returns a count. - what: 0 for the pipes, 1 for the stations, 2 for the connected "
                + "nodes, the plant included, 3 for the nodes of the loop of the part of the plant, 4 for the changes "
                + "that can be undone, 5 for the characters in the text buffer Returns the count.", () -> {
            HeatNetwork x = ring();
            x.addPipe(1, 7, 1, 1);
            x.addPipe(8, 9, 1, 1);
            x.undo();
            write(x, "h1;x");
            int[] counts = {4, 2, 4, 3, 7, 4};
            for (int what = 0; what < 6; what++) {
                due("count(" + what + ")", x.count(what), counts[what]);
            }
            int[] none = {0, 0, 1, 0, 0, 0};
            for (int what = 0; what < 6; what++) {
                due("of a new object, count(" + what + ")", new HeatNetwork().count(what), none[what]);
            }
        });
    }

    // ---- Promises 1 and 38 to 40

    private static void keeps() {
        Sentence.says("Promise 38", "Undoes the latest change that is kept. Returns the number of changes that can "
                + "still be undone.", () -> {
            HeatNetwork x = fork();
            due("undo() of the last station", x.undo(), 5);
            due("one station", x.count(1), 1);
            due("undo() of the first station", x.undo(), 4);
            due("undo() of a pipe", x.undo(), 3);
            due("two pipes", x.count(0), 2);
            x.setSetting(0, 600);
            due("undo() of what came then", x.undo(), 3);
            due("setting(0)", x.setting(0), 900);
            due("undo() of a pipe", x.undo(), 2);
            due("undo() of a pipe", x.undo(), 1);
            due("undo() of the loss", x.undo(), 0);
            due("setting(3)", x.setting(3), 10);
            due("nothing is left", x.count(0), 0);
        });
        Sentence.says("Promise 39", "Saves the network, in place of an earlier snapshot. Returns the number of pipes.",
                () -> {
            HeatNetwork x = fork();
            due("save()", x.save(), 3);
            x.removePipe(2);
            due("save() again", x.save(), 2);
            x.removePipe(1);
            due("the later one is restored", x.restore(), 2);
        });
        Sentence.says("Promise 40", "Restores the network that was saved; the snapshot is kept. Returns the number of "
                + "pipes.", () -> {
            HeatNetwork x = fork();
            x.hours(3);
            x.save();
            for (int i = 0; i < 3; i++) {
                x.setSetting(0, 1000 + i);
                x.removePipe(1);
                x.removeStation(3);
                x.hours(1);
                due("restore()", x.restore(), 3);
                due("the setting", x.setting(0), 900);
                due("the state", x.account(0), 2944);
                due("the hours", x.account(4), 3);
                due("the meter", x.meter(3, 0), 360);
            }
        });
    }

    static void all() {
        settings();
        pipes();
        stations();
        meters();
        texts();
        tellsPipes();
        tellsStations();
        tellsNodes();
        tellsHeads();
        tellsShape();
        reckons();
        tellsAccounts();
        keeps();
    }

    public static void main(String[] arguments) {
        all();
        Check.end("MethodsTest");
    }
}
