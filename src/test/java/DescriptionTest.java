/** The description from its first line on, as far as no other test quotes it: sentence by sentence, by hand. */
public final class DescriptionTest extends ByHand {
    private DescriptionTest() {
    }

    // ---- What it is

    private static void allOfIt() {
        HeatNetwork x = new HeatNetwork();
        x.setSetting(3, 50);
        due("a pipe", x.addPipe(0, 1, 2, 1), 0);
        due("a tree of pipes", x.addPipe(1, 2, 2, 1), 1);
        due("no loop yet", x.count(3), 0);
        due("one loop", x.addPipe(2, 0, 2, 1), 2);
        due("one loop", x.count(3), 3);
        x.addPipe(2, 3, 2, 1);
        refused("at most one loop", 5, x, () -> x.addPipe(3, 1, 2, 1));
        due("a station", x.addStation(2, 99, 200, 4), 1);
        due("it draws hot water", x.station(2, 6), 4);
        // 2 come each way, one way in two pipes: 100 + 800 * 2 / 3 = 633, 100 + 533 * 2 / 3 = 455
        due("a temperature falls along a pipe", x.temperature(1, false), 633);
        due("and they mix at a node: (2 * 455 + 2 * 633) / 4", x.temperature(2, false), 544);
        due("it gives back cooler water", x.temperature(2, true), 200);
        due("a pumping head: 2 * 4 + 2 * 4", x.head(2), 16);
        due("a meter", x.hours(1), 1);
        due("a meter counts 4 * 344", x.meter(2, 0), 1376);
        due("a bill with the return temperature 200: a tariff of 0", x.meter(2, 2), 0);
        x.setReturn(2, 400);
        x.setMeter(2, 1, 0);
        due("a meter with a fault", x.hours(1), 2);
        due("a meter with a fault", x.meter(2, 0), 1376);
        x.setMeter(2, 0, 0);
        x.hours(1);
        due("a bill with the return temperature 400: 576 * 100 / 1000", x.meter(2, 2), 57);
        due("a text form", runText(x, "x2;s3:1,300,1;"), 2);
        due("hours that are kept in accounts", x.account(4), 3);
        due("a snapshot", x.save(), 4);
        due("undo", x.undo(), 7);
        due("the station is back", x.station(2, 1), 400);
        due("the snapshot", x.restore(), 4);
        due("has the other station", x.station(3, 1), 300);
    }

    /** 511 calls lie behind; each of these is the last one of another object. */
    private static void lastCalls() {
        due("call 512: flow(2)", used(511).flow(2), -3);
        due("call 512: temperature(2, false)", used(511).temperature(2, false), 566);
        due("call 512: account(0)", used(511).account(0), 3700);
        due("call 512: trial(2, 200)", used(511).trial(2, 200), 3700);
        due("call 512: bestReturn(1)", used(511).bestReturn(1), 200);
        due("call 512: efficiency()", used(511).efficiency(), 1964.0 / 3700.0);
        due("call 512: hours(24)", used(511).hours(24), 24);
        due("call 512: undo()", used(511).undo(), 5);
        due("call 512: append(112)", used(511).append(112), 1);
        HeatNetwork x = used(507);
        write(x, "x2;h");
        thrown("call 512: run()", ARGUMENT, () -> x.run());
    }

    private static HeatNetwork used(int calls) {
        HeatNetwork x = ring();
        for (int i = 6; i < calls; i++) {
            x.rounds();
        }
        return x;
    }

    private static void whatItIs() {
        Sentence.says("What it is", "A district heating network: pipes as a tree with at most one loop, stations that "
                + "draw hot water and give back cooler water, temperatures that fall along pipes and mix at nodes, "
                + "pumping heads, meters with faults, bills that depend on return temperatures, a text form, reasons "
                + "for what is refused, hours that are kept in accounts, undo, and a snapshot.",
                DescriptionTest::allOfIt);
        Sentence.says("What it is", "An object is used for at most 512 calls after it has been made; what later calls "
                + "answer is free.", DescriptionTest::lastCalls);
    }

    // ---- Numbers

    /** Without losses; the station draws 1 at 900. */
    private static HeatNetwork oneUnit(int returnTemperature) {
        HeatNetwork x = new HeatNetwork();
        x.setSetting(3, 0);
        x.addPipe(0, 1, 1, 1);
        x.addStation(1, 99, returnTemperature, 1);
        return x;
    }

    private static void numbers() {
        Sentence.says("Numbers", "All temperatures are integers in tenths of a degree.", () -> {
            HeatNetwork x = oneUnit(599);
            due("90 degrees", x.temperature(1, false), 900);
            due("59.9 degrees", x.temperature(1, true), 599);
            due("59.9 degrees at the plant", x.temperature(0, true), 599);
            due("in degrees", x.returnDegrees(), 59.9f);
            due("of the station", x.station(1, 1), 599);
            due("of the setting", x.setting(0), 900);
        });
        Sentence.says("Numbers", "Heat is measured in units: one unit of water that is cooled by a tenth of a degree "
                + "gives one unit of heat.", () -> {
            due("1 of water cooled by 300 tenths", oneUnit(600).meter(1, 3), 300);
            due("1 of water cooled by a tenth more", oneUnit(599).meter(1, 3), 301);
            due("it is made in the same units", oneUnit(599).account(0), 301);
            HeatNetwork x = fork();
            due("3 of water cooled by 380 tenths", x.meter(2, 3), 1140);
            due("4 of water heated by 736 tenths", x.account(0), 2944);
        });
        Sentence.says("Numbers", "Flows are units of water in an hour.", () -> {
            HeatNetwork x = fork();
            x.hours(1);
            due("3 units in an hour", x.meter(2, 1), 3 * 380);
            x.hours(7);
            due("24 units in eight hours", x.meter(2, 1), 24 * 380);
            due("32 units leave the plant in eight hours", x.account(5), 32 * 736);
        });
    }

    // ---- Pipes

    private static void pipes() {
        Sentence.says("Pipes", "Pipes never form more than one loop: the number of pipes in each part of the network "
                + "that hangs together is at most the number of its nodes, and all other parts have one pipe less than "
                + "nodes.", () -> {
            HeatNetwork x = ring();
            due("3 nodes, 3 pipes", x.part(0), 7);
            due("4 nodes, 4 pipes", x.addPipe(1, 3, 1, 1), 3);
            refused("4 nodes, 5 pipes", 5, x, () -> x.addPipe(2, 3, 1, 1));
            due("another part: 2 nodes, 1 pipe", x.addPipe(4, 5, 1, 1), 4);
            due("another part: 3 nodes, 2 pipes", x.addPipe(5, 6, 1, 1), 5);
            due("a third part: 2 nodes, 1 pipe", x.addPipe(8, 9, 1, 1), 6);
            due("both are one now: 5 nodes, 4 pipes", x.addPipe(6, 8, 1, 1), 7);
            due("all are one but node 7: 9 nodes, 9 pipes", x.addPipe(9, 3, 1, 1), 8);
            refused("9 nodes, 10 pipes", 5, x, () -> x.addPipe(4, 9, 1, 1));
            due("10 nodes, 10 pipes", x.addPipe(7, 4, 1, 1), 9);
            due("one part", x.part(7), 1023);
            due("one loop", x.count(3), 3);
        });
    }

    // ---- Station flows

    /** What a station of the size and the return temperature draws without losses. */
    private static int drawn(int size, int returnTemperature, int greatestFlow, int supply, int outdoor) {
        HeatNetwork x = new HeatNetwork();
        x.setSetting(3, 0);
        x.setSetting(0, supply);
        x.setSetting(2, outdoor);
        x.addPipe(1, 0, 1, 1);
        x.addStation(1, size, returnTemperature, greatestFlow);
        return x.station(1, 6);
    }

    private static void stationFlows() {
        Sentence.says("Station flows", "The flow of a connected station, with a temperature at its node, is 0 if the "
                + "temperature is less than its return temperature plus 50; otherwise it is the heat that it wants "
                + "divided by the difference of both temperatures, rounded up, but at most its greatest flow.", () -> {
            due("649 is less than 650", drawn(10, 600, 999, 649, 0), 0);
            due("2000 / 50", drawn(10, 600, 999, 650, 0), 40);
            due("2000 / 51 is 39 and a bit", drawn(10, 600, 999, 651, 0), 40);
            due("2000 / 52 is 38 and a bit", drawn(10, 600, 999, 652, 0), 39);
            due("at most 38", drawn(10, 600, 38, 652, 0), 38);
            due("at most 39", drawn(10, 600, 39, 652, 0), 39);
            due("1 / 1000 is a bit", drawn(1, 200, 999, 1200, 199), 1);
            due("0 / 1000", drawn(1, 200, 999, 1200, 200), 0);
            due("49500 / 50 is 990", drawn(99, 550, 999, 600, -300), 990);
            due("49500 / 49 would be 1011", drawn(99, 551, 999, 600, -300), 0);
            due("the same at another difference, 49500 / 649 is 76 and a bit", drawn(99, 551, 999, 1200, -300), 77);
        });
    }

    // ---- Pipe flows

    private static void pipeFlows() {
        Sentence.says("Pipe flows", "Let the first pipe of the loop carry x away from its beginning", () -> {
            HeatNetwork x = ring();
            // x, x - 1 and x - 5: at 2 the sum is 4 + 1 - 9, below 0; at 3 it is 9 + 4 - 4
            due("the loop begins at the plant", x.loop(0), 0);
            due("and goes to node 1", x.loop(1), 1);
            due("its first pipe carries 3, told the other way", x.flow(2), -3);
            due("the second 2, told the other way", x.flow(1), -2);
            due("the third 2 against the loop", x.flow(0), 2);
            due("2 * 9", x.imbalance(), 18);
            x.setReturn(2, 600);
            // node 2 is at 566 then, less than 650, and draws nothing: x, x - 1, x - 1, and at 1 the sum is 1
            due("its first pipe carries 1", x.flow(2), -1);
            due("the others nothing", x.flow(0) + x.flow(1), 0);
            due("2 * 1", x.imbalance(), 2);
            due("in the third round as in the second", x.rounds(), 3);
        });
    }

    // ---- Temperatures

    private static void temperatures() {
        Sentence.says("Temperatures", "That of any other node is the sum, over all pipes that carry water to it, of "
                + "the flow times the temperature of the water that they bring, divided by the sum of these flows",
                () -> {
            HeatNetwork x = ring();
            due("one pipe brings 3 at 700", x.temperature(1, false), 700);
            due("two pipes bring 2 at 500 and 2 at 633", x.temperature(2, false), 566);
            x.addStation(3, 99, 200, 1);
            x.addPipe(1, 3, 2, 1);
            // x, x - 2, x - 6: at 3 the sum is 9 + 1 - 9; to node 2 come 1 at 100 + 600 / 2 and 3 at 100 + 800 * 3 / 4
            due("the first pipe still carries 3", x.flow(2), -3);
            due("(1 * 400 + 3 * 700) / 4", x.temperature(2, false), 625);
            due("100 + 600 / 2", x.temperature(3, false), 400);
            due("nothing is left", x.rounding(3), 0);
            HeatNetwork y = fork();
            due("100 + 800 * 4 / 5", y.temperature(1, false), 740);
            due("100 + 640 * 3 / 4", y.temperature(2, false), 580);
            due("100 + 640 * 1 / 2", y.temperature(3, false), 420);
        });
    }

    // ---- Return

    private static void back() {
        Sentence.says("Return", "The water of each flow goes back through the same pipe in the opposite direction.",
                () -> {
            HeatNetwork x = ring();
            // 2 come to node 2 by each of both ways, and go back so: to node 1 as well as to the plant
            due("node 1 gets 2 back from node 2", x.temperature(1, true), (1 * 200 + 2 * 166) / 3);
            due("the plant gets 2 back from node 2, and 3 from node 1", x.temperature(0, true), 803 / 5);
        });
        Sentence.says("Return", "The return temperature of a node is the sum of the flow of its station times the "
                + "return temperature of this station, and of the flows of the pipes that carry hot water away from "
                + "the node times the temperatures at which their water comes back, divided by the sum of these flows",
                () -> {
            HeatNetwork x = fork();
            due("a station alone", x.temperature(2, true), 200);
            due("two pipes: (3 * 175 + 1 * 200) / 4", x.temperature(1, true), 181);
            due("1 is left", x.rounding(1), 1);
            due("the plant: 4 * 164 / 4", x.temperature(0, true), 164);
            x.addStation(1, 99, 600, 5);
            // 9 arrive at 100 + 800 * 9 / 10 = 820 at node 1
            due("a station and two pipes: (5 * 600 + 3 * 175 + 1 * 200) / 9 = 413, 8 left",
                    x.temperature(1, true), 413);
            due("8 are left", x.rounding(1), 8);
            due("100 + 313 * 9 / 10", x.temperature(0, true), 381);
        });
        Sentence.says("Return", "Water goes back from a node with this temperature, and changes it in a pipe like hot "
                + "water does.", () -> {
            HeatNetwork x = fork();
            due("from 181 to 100 + 81 * 4 / 5, rounded down", x.temperature(0, true), 164);
            x.setSetting(1, 0);
            // without the ground: 720, 540 and 360 come, 150 and 150 go back to node 1, 120 to the plant
            due("the temperature of node 1", x.temperature(1, false), 720);
            due("(3 * 150 + 1 * 150) / 4", x.temperature(1, true), 150);
            due("150 * 4 / 5", x.temperature(0, true), 120);
            x.setSetting(3, 0);
            due("without a loss: (3 * 200 + 1 * 300) / 4", x.temperature(0, true), 225);
        });
    }

    // ---- Rounds

    private static void rounds() {
        Sentence.says("Rounds", "The state of the network is found in rounds.", () -> {
            HeatNetwork x = oneStation();
            due("3 at 715, 5 at 777, 4 at 753, 4 again", x.rounds(), 4);
            due("the flow of the last one", x.station(1, 6), 4);
            due("the temperature of the last one", x.temperature(1, false), 753);
            due("the same state however often it is asked", x.rounds(), 4);
            due("the same state however often it is asked", x.flow(0), 4);
            x.setSetting(5, 7);
            due("and found anew it begins anew", x.rounds(), 4);
        });
        Sentence.says("Rounds", "In each round, the pipe flows and the temperatures follow from the station flows.",
                () -> {
            HeatNetwork x = oneStation();
            x.setReturn(1, 500);
            // 5 at 777, 7 at 808, 6 at 795, 7 at 808, and so on: the twelfth draws 7, as the eleventh came to 795
            due("the twelfth draws", x.station(1, 6), 7);
            due("its pipe carries the same", x.flow(0), 7);
            due("its temperature is the one of 7", x.temperature(1, false), 808);
            due("and so is the one that goes back: 100 + 400 * 700 / 790", x.temperature(0, true), 454);
            due("7 * 308", x.meter(1, 3), 2156);
        });
    }

    // ---- Accounts

    private static void accounts() {
        Sentence.says("Accounts", "The heat that is made is the flow that leaves the plant times the difference of the "
                + "supply temperature and the return temperature of the plant.", () -> {
            due("4 * (900 - 164)", fork().account(0), 2944);
            due("by two pipes, 3 and 2: 5 * (900 - 160)", ring().account(0), 3700);
            due("7 * (900 - 407)", twoStations().account(0), 3451);
            HeatNetwork x = fork();
            x.setSetting(0, 1200);
            // 100 + 1100 * 4 / 5 = 980; what comes back stays the same
            due("4 * (1200 - 164)", x.account(0), 4144);
        });
        Sentence.says("Accounts", "The heat of a station is its flow times the difference of the temperature of its "
                + "node and its return temperature.", () -> {
            HeatNetwork x = fork();
            due("3 * (580 - 200)", x.meter(2, 3), 1140);
            due("1 * (420 - 300)", x.meter(3, 3), 120);
            due("both", x.account(1), 1260);
            x.addStation(1, 99, 600, 5);
            // 820 at node 1, so 100 + 720 * 3 / 4 = 640 at node 2, 100 + 720 / 2 = 460 at node 3
            due("5 * (820 - 600), not with what comes back from farther away", x.meter(1, 3), 1100);
            due("3 * (640 - 200)", x.meter(2, 3), 1320);
            due("all three", x.account(1), 1100 + 1320 + 160);
        });
        Sentence.says("Accounts", "The heat that a pipe loses is its flow times the sum of both falls of temperature, "
                + "of the hot water and of the water that goes back.", () -> {
            HeatNetwork x = fork();
            due("4 * (160 + 17)", x.loss(0), 708);
            due("3 * (160 + 25), also of a flow below 0", x.loss(1), 555);
            due("1 * (320 + 100)", x.loss(2), 420);
            due("all pipes", x.account(2), 1683);
            HeatNetwork y = ring();
            due("2 * (267 + 34)", y.loss(0), 602);
            due("2 * (200 + 34)", y.loss(1), 468);
            due("3 * (200 + 20)", y.loss(2), 660);
            due("what is made is given or lost", y.account(0), 1964 + 1730 + 6);
        });
    }

    // ---- Heads, bills, hours and details

    private static void hourByHour() {
        Sentence.says("Bills", "In each hour, a station pays for what its meter counts: that number times the tariff, "
                + "divided by 1000.", () -> {
            HeatNetwork x = fork();
            x.setReturn(2, 399);
            // 3 * 181 = 543; 100 + 5 * -1 / 10, rounded down, is 99
            x.hours(1);
            due("543 * 99 / 1000", x.meter(2, 2), 53);
            x.hours(3);
            due("four hours", x.meter(2, 2), 4 * 53);
            x.setMeter(2, 2, 2000);
            x.hours(1);
            due("1086 * 99 / 1000, as the meter counts", x.meter(2, 2), 4 * 53 + 107);
            x.setMeter(2, 1, 2000);
            x.hours(1);
            due("nothing is counted, nothing paid", x.meter(2, 2), 4 * 53 + 107);
            due("the true heat grows", x.meter(2, 1), 6 * 543);
            due("the other one pays 120 * 50 / 1000", x.meter(3, 2), 6 * 6);
        });
        Sentence.says("Hours", "Hours are refused for the reason 7. Otherwise, in each of them meters, true heat, "
                + "bills and the accounts of all hours grow.", () -> {
            HeatNetwork x = fork();
            x.setSetting(4, 85);
            refused("a head of 86 is too great", 7, x, () -> x.hours(1));
            due("nothing grows", x.account(4) + x.account(5) + x.account(6) + x.account(7), 0);
            x.setSetting(4, 86);
            due("hours(3)", x.hours(3), 3);
            long[] grown = {3, 3 * 2944, 3 * 1260, 3 * 6};
            for (int what = 4; what < 8; what++) {
                due("account(" + what + ")", x.account(what), grown[what - 4]);
            }
            due("the meter", x.meter(3, 0), 360);
            due("the true heat", x.meter(3, 1), 360);
            due("the bill: 120 * 50 / 1000", x.meter(3, 2), 18);
            due("a tariff of 0", x.meter(2, 2), 0);
        });
        Sentence.says("Details", "Heads can be below 0 in the loop, and so can the head that is needed.", () -> {
            // drops count with their signs, so heads fall behind the place from which the loop carries backward
            HeatNetwork x = new HeatNetwork();
            x.setSetting(3, 0);
            x.addPipe(0, 1, 1, 1);
            x.addPipe(1, 2, 99, 9);
            x.addPipe(2, 3, 1, 1);
            x.addPipe(3, 0, 1, 1);
            x.addStation(1, 99, 200, 9);
            x.addStation(3, 99, 200, 4);
            // x, x - 9, x - 9, x - 13: at 8 the sum is 64 - 891 - 1 - 25; at 9 it is 81 - 16
            due("head(1)", x.head(1), 81);
            due("head(3)", x.head(3), 81);
            x.addStation(2, 99, 200, 1);
            // x, x - 9, x - 10, x - 14: at 9 it is 81 + 0 - 1 - 25
            due("head(2)", x.head(2), 81);
            due("head(3) is less than head(2)", x.head(3), 80);
            due("neededHead()", x.neededHead(), 81);
            due("imbalance()", x.imbalance(), 55);
            x.removeStation(1);
            x.removeStation(2);
            // x, x, x, x - 4: at 0 the sum is -16, at 1 it is 1 + 891 + 1 - 9
            due("imbalance()", x.imbalance(), 884);
            due("neededHead() by the first pipe, not by the nearer one", x.neededHead(), 893);
        });
    }

    static void all() {
        whatItIs();
        numbers();
        pipes();
        stationFlows();
        pipeFlows();
        temperatures();
        back();
        rounds();
        accounts();
        hourByHour();
    }

    public static void main(String[] arguments) {
        all();
        Check.end("DescriptionTest");
    }
}
