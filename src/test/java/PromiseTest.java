/** The promises of the document one by one, with answers that were worked out by hand from its words. */
public final class PromiseTest extends ByHand {
    private PromiseTest() {
    }

    private static void newObject() {
        HeatNetwork x = new HeatNetwork();
        int[] settings = {900, 100, 0, 10, 50000000, 100, 5};
        for (int i = 0; i < 7; i++) {
            due("new: setting(" + i + ")", x.setting(i), settings[i]);
        }
        int[] counts = {0, 0, 1, 0, 0, 0};
        for (int i = 0; i < 6; i++) {
            due("new: count(" + i + ")", x.count(i), counts[i]);
        }
        for (int i = 0; i < 8; i++) {
            due("new: account(" + i + ")", x.account(i), 0);
        }
        for (int i = 0; i < 10; i++) {
            due("new: part(" + i + ")", x.part(i), 1 << i);
            due("new: temperature(" + i + ", true)", x.temperature(i, true), 100);
            due("new: temperature(" + i + ", false)", x.temperature(i, false), i == 0 ? 900 : 100);
            due("new: rounding(" + i + ")", x.rounding(i), 0);
            int node = i;
            thrown("new: station(" + i + ", 0)", ELEMENT, () -> x.station(node, 0));
        }
        due("new: rounds()", x.rounds(), 2);
        due("new: neededHead()", x.neededHead(), 0);
        due("new: head(0)", x.head(0), 0);
        due("new: returnDegrees()", x.returnDegrees(), 10.0f);
        due("new: faultPosition()", x.faultPosition(), -1);
    }

    private static void setSetting() {
        int[] least = {600, 0, -300, 0, 1, 0, 0};
        int[] most = {1200, 200, 300, 99, 999999999, 999, 99};
        int[] first = {900, 100, 0, 10, 50000000, 100, 5};
        HeatNetwork x = new HeatNetwork();
        for (int i = 0; i < 7; i++) {
            int setting = i;
            due("setSetting least " + i, x.setSetting(i, least[i]), first[i]);
            due("setSetting most " + i, x.setSetting(i, most[i]), least[i]);
            thrown("setSetting below " + i, ARGUMENT, () -> x.setSetting(setting, least[setting] - 1));
            thrown("setSetting above " + i, ARGUMENT, () -> x.setSetting(setting, most[setting] + 1));
            thrown("setSetting far below " + i, ARGUMENT, () -> x.setSetting(setting, FAR_BELOW));
            thrown("setSetting far above " + i, ARGUMENT, () -> x.setSetting(setting, FAR));
            due("setting " + i, x.setting(i), most[i]);
        }
        thrown("setSetting(7, 0)", INDEX, () -> x.setSetting(7, 0));
        thrown("setSetting(-1, 5000)", INDEX, () -> x.setSetting(-1, 5000));
        thrown("setSetting far", INDEX, () -> x.setSetting(FAR_BELOW, FAR));
        thrown("a setting out of range keeps no reason", ELEMENT, () -> x.refusal());
        due("14 changes, 8 kept", x.count(4), 8);
    }

    private static void setting() {
        HeatNetwork x = new HeatNetwork();
        x.setSetting(2, -300);
        due("setting(2)", x.setting(2), -300);
        due("setting(0)", x.setting(0), 900);
        thrown("setting(-1)", INDEX, () -> x.setting(-1));
        thrown("setting(7)", INDEX, () -> x.setting(7));
        thrown("setting far", INDEX, () -> x.setting(FAR));
    }

    private static void addPipe() {
        HeatNetwork x = new HeatNetwork();
        due("addPipe(0, 1, 1, 1)", x.addPipe(0, 1, 1, 1), 0);
        due("addPipe(9, 0, 99, 9)", x.addPipe(9, 0, 99, 9), 1);
        refused("addPipe(-1, 1, 0, 1)", 1, x, () -> x.addPipe(-1, 1, 0, 1));
        refused("addPipe(1, 10, 1, 0)", 1, x, () -> x.addPipe(1, 10, 1, 0));
        refused("addPipe far", 1, x, () -> x.addPipe(FAR, FAR_BELOW, 1, 1));
        refused("addPipe(1, 1, 0, 1)", 2, x, () -> x.addPipe(1, 1, 0, 1));
        refused("addPipe(1, 2, 100, 1)", 2, x, () -> x.addPipe(1, 2, 100, 1));
        refused("addPipe(1, 2, 1, 0)", 2, x, () -> x.addPipe(1, 2, 1, 0));
        refused("addPipe(1, 2, 1, 10)", 2, x, () -> x.addPipe(1, 2, 1, 10));
        refused("addPipe(2, 2, 1, 1)", 3, x, () -> x.addPipe(2, 2, 1, 1));
        refused("addPipe(0, 1, 1, 1) again", 3, x, () -> x.addPipe(0, 1, 1, 1));
        refused("addPipe(1, 0, 1, 1)", 3, x, () -> x.addPipe(1, 0, 1, 1));
        due("addPipe(1, 9, 1, 1) closes the loop", x.addPipe(1, 9, 1, 1), 2);
        due("addPipe(9, 8, 1, 1)", x.addPipe(9, 8, 1, 1), 3);
        refused("addPipe(8, 0, 1, 1)", 5, x, () -> x.addPipe(8, 0, 1, 1));
        due("a refused pipe is no change", x.count(4), 4);
        x.addPipe(2, 3, 1, 1);
        x.addPipe(3, 4, 1, 1);
        due("addPipe(4, 2, 1, 1) closes a loop elsewhere", x.addPipe(4, 2, 1, 1), 6);
        refused("addPipe between two loops", 5, x, () -> x.addPipe(4, 8, 1, 1));
        due("addPipe from a loop to a node alone", x.addPipe(8, 7, 1, 1), 7);
        x.addPipe(5, 6, 1, 1);
        due("addPipe from a tree to a loop", x.addPipe(6, 4, 1, 1), 9);
        refused("addPipe beyond 10", 4, x, () -> x.addPipe(5, 7, 1, 1));
        refused("addPipe beyond 10, the same", 3, x, () -> x.addPipe(4, 6, 1, 1));
        due("count(0)", x.count(0), 10);
    }

    private static void removePipe() {
        HeatNetwork x = new HeatNetwork();
        thrown("removePipe(0) of none", INDEX, () -> x.removePipe(0));
        x.addPipe(0, 1, 11, 1);
        x.addPipe(1, 2, 12, 2);
        x.addPipe(2, 3, 13, 3);
        thrown("removePipe(-1)", INDEX, () -> x.removePipe(-1));
        thrown("removePipe(3)", INDEX, () -> x.removePipe(3));
        thrown("removePipe far", INDEX, () -> x.removePipe(FAR));
        due("removePipe(1)", x.removePipe(1), 2);
        int[] last = {2, 3, 13, 3};
        for (int what = 0; what < 4; what++) {
            due("the last pipe is number 1 now, " + what, x.pipe(1, what), last[what]);
        }
        due("pipe(0, 2)", x.pipe(0, 2), 11);
        thrown("pipe(2, 0)", INDEX, () -> x.pipe(2, 0));
        due("removePipe(1) of the last", x.removePipe(1), 1);
        due("part(1)", x.part(1), 3);
        due("removePipe(0)", x.removePipe(0), 0);
        due("part(1) alone", x.part(1), 2);
    }

    private static void addStation() {
        HeatNetwork x = new HeatNetwork();
        due("addStation(1, 1, 200, 1)", x.addStation(1, 1, 200, 1), 1);
        due("addStation(9, 99, 600, 999)", x.addStation(9, 99, 600, 999), 2);
        refused("addStation(0, 0, 200, 1)", 1, x, () -> x.addStation(0, 0, 200, 1));
        refused("addStation(10, 1, 200, 1)", 1, x, () -> x.addStation(10, 1, 200, 1));
        refused("addStation(-1, 1, 200, 1)", 1, x, () -> x.addStation(-1, 1, 200, 1));
        refused("addStation(1, 0, 200, 1)", 2, x, () -> x.addStation(1, 0, 200, 1));
        refused("addStation(2, 100, 200, 1)", 2, x, () -> x.addStation(2, 100, 200, 1));
        refused("addStation(2, 1, 199, 1)", 2, x, () -> x.addStation(2, 1, 199, 1));
        refused("addStation(2, 1, 601, 1)", 2, x, () -> x.addStation(2, 1, 601, 1));
        refused("addStation(2, 1, 200, 0)", 2, x, () -> x.addStation(2, 1, 200, 0));
        refused("addStation(2, 1, 200, 1000)", 2, x, () -> x.addStation(2, 1, 200, 1000));
        refused("addStation(1, 1, 200, 1) again", 6, x, () -> x.addStation(1, 1, 200, 1));
        due("count(1)", x.count(1), 2);
        HeatNetwork y = oneStation();
        y.setMeter(1, 2, 500);
        y.hours(2);
        y.removeStation(1);
        y.addStation(1, 9, 300, 9);
        due("a new station has no fault", y.station(1, 3), 0);
        due("a new station has 1000 thousandths", y.station(1, 4), 1000);
        for (int what = 0; what < 3; what++) {
            due("a new station, meter " + what, y.meter(1, what), 0);
        }
    }

    private static void removeStation() {
        HeatNetwork x = twoStations();
        refused("removeStation(0)", 1, x, () -> x.removeStation(0));
        refused("removeStation(10)", 1, x, () -> x.removeStation(10));
        refused("removeStation(-1)", 1, x, () -> x.removeStation(-1));
        refused("removeStation(3)", 6, x, () -> x.removeStation(3));
        due("removeStation(2)", x.removeStation(2), 1);
        refused("removeStation(2) again", 6, x, () -> x.removeStation(2));
        due("flow(0) for the other one", x.flow(0), 2);
        due("flow(1)", x.flow(1), 0);
        due("removeStation(1)", x.removeStation(1), 0);
        due("flow(0) for none", x.flow(0), 0);
    }

    private static void setReturn() {
        HeatNetwork x = twoStations();
        due("setReturn(2, 450)", x.setReturn(2, 450), 451);
        due("setReturn(2, 450) flow", x.station(2, 6), 4);
        due("setReturn(1, 200)", x.setReturn(1, 200), 300);
        due("setReturn(1, 600)", x.setReturn(1, 600), 200);
        due("station(1, 1)", x.station(1, 1), 600);
        thrown("setReturn(1, 199)", ARGUMENT, () -> x.setReturn(1, 199));
        thrown("setReturn(1, 601)", ARGUMENT, () -> x.setReturn(1, 601));
        thrown("setReturn(0, 300)", ELEMENT, () -> x.setReturn(0, 300));
        thrown("setReturn(3, 100)", ELEMENT, () -> x.setReturn(3, 100));
        thrown("setReturn(10, 300)", ELEMENT, () -> x.setReturn(10, 300));
        thrown("setReturn(-1, 300)", ELEMENT, () -> x.setReturn(-1, 300));
        due("station(1, 1) still", x.station(1, 1), 600);
    }

    private static void setMeter() {
        HeatNetwork x = oneStation();
        due("setMeter(1, 2, 0)", x.setMeter(1, 2, 0), 0);
        due("setMeter(1, 1, 2000)", x.setMeter(1, 1, 2000), 2);
        due("thousandths are kept", x.station(1, 4), 2000);
        x.hours(1);
        due("a meter that stands still", x.meter(1, 0), 0);
        due("setMeter(1, 2, 333)", x.setMeter(1, 2, 333), 1);
        x.hours(2);
        due("1812 * 333 / 1000 = 603 in each hour", x.meter(1, 0), 1206);
        due("setMeter(1, 0, 7)", x.setMeter(1, 0, 7), 2);
        x.hours(1);
        due("without a fault", x.meter(1, 0), 1206 + 1812);
        due("true heat", x.meter(1, 1), 4 * 1812);
        thrown("setMeter(1, 3, 0)", ARGUMENT, () -> x.setMeter(1, 3, 0));
        thrown("setMeter(1, -1, 0)", ARGUMENT, () -> x.setMeter(1, -1, 0));
        thrown("setMeter(1, 0, -1)", ARGUMENT, () -> x.setMeter(1, 0, -1));
        thrown("setMeter(1, 0, 2001)", ARGUMENT, () -> x.setMeter(1, 0, 2001));
        thrown("setMeter(2, 9, 9)", ELEMENT, () -> x.setMeter(2, 9, 9));
        thrown("setMeter(0, 0, 0)", ELEMENT, () -> x.setMeter(0, 0, 0));
        thrown("setMeter far", ELEMENT, () -> x.setMeter(FAR, 0, 0));
        due("station(1, 4)", x.station(1, 4), 7);
    }

    private static void hours() {
        HeatNetwork x = oneStation();
        due("hours(1)", x.hours(1), 1);
        due("hours(24)", x.hours(24), 25);
        thrown("hours(0)", ARGUMENT, () -> x.hours(0));
        thrown("hours(25)", ARGUMENT, () -> x.hours(25));
        thrown("hours far", ARGUMENT, () -> x.hours(FAR_BELOW));
        thrown("hours out of range keep no reason", ELEMENT, () -> x.refusal());
        due("1812 * 50 / 1000 = 90 in each hour", x.meter(1, 2), 25 * 90);
        due("true heat", x.meter(1, 1), 25 * 1812);
        due("made in all", x.account(5), 25 * 2548);
        x.setSetting(4, 288);
        due("a head of 288 is not too great", x.hours(1), 26);
        x.setSetting(4, 287);
        thrown("hours(25) behind the range", ARGUMENT, () -> x.hours(25));
        refused("hours with too great a head", 7, x, () -> x.hours(1));
        due("hours went by", x.account(4), 26);
        due("the meter stays", x.meter(1, 0), 26 * 1812);
    }

    private static void append() {
        HeatNetwork x = new HeatNetwork();
        due("append(32)", x.append(32), 1);
        due("append(126)", x.append(126), 2);
        thrown("append(31)", ARGUMENT, () -> x.append(31));
        thrown("append(127)", ARGUMENT, () -> x.append(127));
        thrown("append far", ARGUMENT, () -> x.append(FAR));
        for (int i = 3; i <= 60; i++) {
            due("append " + i, x.append('h'), i);
        }
        thrown("append a 61st", STATE, () -> x.append('h'));
        thrown("append a wrong 61st", ARGUMENT, () -> x.append(-1));
        due("count(5)", x.count(5), 60);
        due("appending is no change", x.count(4), 0);
    }

    private static void run() {
        HeatNetwork x = new HeatNetwork();
        due("run of all kinds", runText(x, "p0-1:9,2;s1:9,300,9;t5=099;h02;"), 4);
        due("setting(5)", x.setting(5), 99);
        due("flow(0)", x.flow(0), 4);
        due("hours", x.account(4), 2);
        due("1812 * 49 / 1000 = 88 in each hour", x.account(7), 176);
        due("one change", x.count(4), 1);
        due("the buffer is empty", x.count(5), 0);
        due("run of x", runText(x, "x1;t2=-300;"), 2);
        due("setting(2)", x.setting(2), -300);
        due("count(1)", x.count(1), 0);
        due("20 definitions", runText(x, "h1;h1;h1;h1;h1;h1;h1;h1;h1;h1;h1;h1;h1;h1;h1;h1;h1;h1;h1;h1;"), 20);
        due("22 hours", x.account(4), 22);
        write(x, "s1:1,200,1;s1:1,200,1;");
        refused("run with a second station", 6, x, () -> x.run());
        due("none is carried out", x.count(1), 0);
        due("the buffer is empty behind a refusal", x.count(5), 0);
        due("three changes", x.count(4), 3);
        write(x, "s1:1,200,1;h1");
        thrown("run of a fault", ARGUMENT, () -> x.run());
        due("the buffer is empty behind a fault", x.count(5), 0);
        due("none is carried out behind a fault", x.count(1), 0);
        thrown("run of nothing", ARGUMENT, () -> x.run());
        refusedTexts();
        hoursInTexts();
    }

    private static void refusedTexts() {
        Object[][] rows = {
            {"s0:1,200,1;", 1}, {"x0;", 1}, {"t7=1;", 1}, {"t9=-999;", 1}, {"p0-0:0,1;", 2}, {"p0-1:100,1;", 2},
            {"p0-1:1,10;", 2}, {"s1:0,200,1;", 2}, {"s1:1,199,1;", 2}, {"s1:1,200,0;", 2}, {"t0=599;", 2},
            {"t3=-1;", 2}, {"t4=0;", 2}, {"h0;", 2}, {"h25;", 2}, {"h000;", 2}, {"h999;", 2}, {"p3-3:1,1;", 3},
            {"p0-1:1,1;p1-0:1,1;", 3}, {"x5;", 6}, {"s1:1,200,1;x1;x1;", 6},
            {"p0-1:1,1;p1-2:1,1;p2-0:1,1;p2-3:1,1;p3-0:1,1;", 5}, {"x1;s0:1,1,1;", 6},
            {"p0-1:9,9;s1:99,200,99;t4=1;h1;", 7}};
        for (Object[] row : rows) {
            HeatNetwork x = new HeatNetwork();
            write(x, (String) row[0]);
            refused("run of " + row[0], (Integer) row[1], x, () -> x.run());
            due("faultPosition() behind " + row[0], x.faultPosition(), -1);
            due("count(4) behind " + row[0], x.count(4), 0);
            due("pipes behind " + row[0], x.count(0), 0);
            due("stations behind " + row[0], x.count(1), 0);
        }
    }

    /** Each hour is one of the network as the definitions ahead of it have made it. */
    private static void hoursInTexts() {
        HeatNetwork x = new HeatNetwork();
        runText(x, "t3=0;p0-1:1,1;s1:6,300,99;h1;t2=100;h1;x1;h1;");
        due("1200, then 600, then 0 is made", x.account(5), 1800);
        due("1200 * 50 / 1000 and 600 * 50 / 1000 are paid", x.account(7), 90);
        due("3 hours", x.account(4), 3);
    }

    private static void faultPosition() {
        Object[][] rows = {
            {"", 0}, {"p", 1}, {"q", 0}, {" x1;", 0}, {"P0-1:1,1;", 0}, {"x1", 2}, {"x1;;", 3}, {"x1; ", 3}, {"x;", 1},
            {"x12;", 2}, {"p10-1:1,1;", 2}, {"p0-12:1,1;", 4}, {"p0:1", 2}, {"p0-1,", 4}, {"p0-1:,", 5},
            {"p0-1:1000,1;", 8}, {"p0-1:1;", 6}, {"p0-1:1,1,", 8}, {"p0-1:1,", 7}, {"p0-1:-1,1;", 5}, {"s1:1,2;", 6},
            {"s1:1,2,3", 8}, {"s1:1,2,3,", 8}, {"s1-", 2}, {"s12:", 2}, {"t1=;", 3}, {"t1=--1;", 4}, {"t1=-;", 4},
            {"t1=-1000;", 7}, {"t1:", 2}, {"t=1;", 1}, {"h;", 1}, {"h-1;", 1}, {"h1000;", 4}, {"h1;h", 4},
            {"h1;y", 3}, {"x9;t0=1", 7}, {"h1;x1;z;", 6}, {"t12=1;", 2}, {"s1:1,200,1;q", 11}};
        for (Object[] row : rows) {
            HeatNetwork x = new HeatNetwork();
            write(x, (String) row[0]);
            thrown("run of " + row[0], ARGUMENT, () -> x.run());
            due("faultPosition() behind " + row[0], x.faultPosition(), row[1]);
            thrown("refusal() behind " + row[0], ELEMENT, () -> x.refusal());
        }
        HeatNetwork x = new HeatNetwork();
        write(x, "y");
        due("faultPosition() ahead of run", x.faultPosition(), -1);
        thrown("run of y", ARGUMENT, () -> x.run());
        x.setSetting(0, 600);
        x.undo();
        due("faultPosition() stays", x.faultPosition(), 0);
        runText(x, "t0=700;");
        due("faultPosition() behind a right text", x.faultPosition(), -1);
    }

    private static void refusal() {
        HeatNetwork x = new HeatNetwork();
        thrown("refusal() of nothing", ELEMENT, () -> x.refusal());
        refused("removeStation(1)", 6, x, () -> x.removeStation(1));
        x.save();
        x.addStation(1, 1, 200, 1);
        due("refusal() behind a success", x.refusal(), 6);
        refused("addPipe(1, 1, 1, 1)", 3, x, () -> x.addPipe(1, 1, 1, 1));
        x.undo();
        due("refusal() behind undo", x.refusal(), 3);
        x.restore();
        due("refusal() behind restore", x.refusal(), 3);
    }

    private static void pipe() {
        HeatNetwork x = triangle();
        int[] pipe = {3, 1, 1, 1, 1};
        for (int what = 0; what < 5; what++) {
            due("pipe(1, " + what + ")", x.pipe(1, what), pipe[what]);
        }
        due("pipe(0, 2)", x.pipe(0, 2), 2);
        due("pipe(0, 4)", x.pipe(0, 4), 0);
        due("pipe(2, 4)", x.pipe(2, 4), 1);
        due("pipe(3, 4)", x.pipe(3, 4), 1);
        x.removePipe(0);
        due("a loop without the plant is not told", x.pipe(0, 4), 0);
        thrown("pipe(3, 9)", INDEX, () -> x.pipe(3, 9));
        thrown("pipe(-1, 0)", INDEX, () -> x.pipe(-1, 0));
        thrown("pipe(0, 5)", ARGUMENT, () -> x.pipe(0, 5));
        thrown("pipe(0, -1)", ARGUMENT, () -> x.pipe(0, -1));
    }

    private static void station() {
        HeatNetwork x = oneStation();
        int[] station = {9, 300, 9, 0, 1000, 1800, 4, 50};
        for (int what = 0; what < 8; what++) {
            due("station(1, " + what + ")", x.station(1, what), station[what]);
        }
        x.setSetting(2, 200);
        due("nothing is wanted at 200", x.station(1, 5), 0);
        due("no flow at 200", x.station(1, 6), 0);
        x.setSetting(2, 199);
        due("9 are wanted at 199", x.station(1, 5), 9);
        x.setSetting(2, -300);
        due("4500 are wanted at -300", x.station(1, 5), 4500);
        due("at most the greatest flow", x.station(1, 6), 9);
        x.setSetting(5, 0);
        due("a tariff is at least 0", x.station(1, 7), 0);
        x.setSetting(5, 10);
        x.setSetting(6, 1);
        x.setReturn(1, 399);
        due("the product -1 / 10 is rounded down", x.station(1, 7), 9);
        x.setReturn(1, 409);
        due("the product 9 / 10 is rounded down", x.station(1, 7), 10);
        thrown("station(1, 8)", ARGUMENT, () -> x.station(1, 8));
        thrown("station(1, -1)", ARGUMENT, () -> x.station(1, -1));
        thrown("station(2, 8)", ELEMENT, () -> x.station(2, 8));
        thrown("station(0, 0)", ELEMENT, () -> x.station(0, 0));
        thrown("station(10, 0)", ELEMENT, () -> x.station(10, 0));
        thrown("station(-1, 0)", ELEMENT, () -> x.station(-1, 0));
        stationFlowEdges();
    }

    private static void stationFlowEdges() {
        HeatNetwork x = new HeatNetwork();
        x.setSetting(3, 0);
        x.setSetting(0, 650);
        x.addPipe(0, 1, 1, 1);
        x.addStation(1, 1, 600, 999);
        due("650 is not less than 600 plus 50", x.station(1, 6), 4);
        x.setSetting(0, 649);
        due("649 is less than 600 plus 50", x.station(1, 6), 0);
        due("temperature(1, false) without a flow", x.temperature(1, false), 100);
        x.addStation(2, 1, 200, 1);
        due("a station that is not connected", x.station(2, 6), 0);
    }

    private static void meter() {
        HeatNetwork x = oneStation();
        due("meter(1, 3)", x.meter(1, 3), 1812);
        x.setMeter(1, 2, 1500);
        x.hours(3);
        due("meter(1, 0)", x.meter(1, 0), 3 * 2718);
        due("meter(1, 1)", x.meter(1, 1), 3 * 1812);
        due("2718 * 50 / 1000 = 135 in each hour", x.meter(1, 2), 3 * 135);
        thrown("meter(1, 4)", ARGUMENT, () -> x.meter(1, 4));
        thrown("meter(1, -1)", ARGUMENT, () -> x.meter(1, -1));
        thrown("meter(0, 4)", ELEMENT, () -> x.meter(0, 4));
        thrown("meter(5, 0)", ELEMENT, () -> x.meter(5, 0));
        thrown("meter(10, 0)", ELEMENT, () -> x.meter(10, 0));
    }

    private static void flow() {
        HeatNetwork x = twoStations();
        due("flow(0)", x.flow(0), 7);
        due("flow(1) against the order of its nodes", x.flow(1), -5);
        thrown("flow(2)", INDEX, () -> x.flow(2));
        thrown("flow(-1)", INDEX, () -> x.flow(-1));
        HeatNetwork y = triangle();
        // 1 -> 2 carries x, 2 -> 3 x - 3, 3 -> 1 x - 11: at 5 the sum is 25 + 4 - 36, below 0; at 6 it is 36 + 9 - 25
        due("triangle flow(0)", y.flow(0), 11);
        due("triangle flow(3)", y.flow(3), 6);
        due("triangle flow(2)", y.flow(2), -3);
        due("triangle flow(1)", y.flow(1), -5);
        y.removePipe(0);
        due("without the plant", y.flow(0), 0);
    }

    private static void direction() {
        HeatNetwork x = twoStations();
        due("direction(0)", x.direction(0), '+');
        due("direction(1)", x.direction(1), '-');
        x.removeStation(2);
        due("direction(1) without a flow", x.direction(1), '0');
        thrown("direction(2)", INDEX, () -> x.direction(2));
        thrown("direction(-1)", INDEX, () -> x.direction(-1));
    }

    private static void temperature() {
        HeatNetwork x = oneStation();
        due("temperature(0, false)", x.temperature(0, false), 900);
        due("temperature(1, false)", x.temperature(1, false), 753);
        due("temperature(1, true)", x.temperature(1, true), 300);
        due("temperature(0, true)", x.temperature(0, true), 263);
        due("temperature(2, true)", x.temperature(2, true), 100);
        thrown("temperature(10, true)", INDEX, () -> x.temperature(10, true));
        thrown("temperature(-1, false)", INDEX, () -> x.temperature(-1, false));
        HeatNetwork y = twoStations();
        due("mixed at node 1: 2855 / 7", y.temperature(1, true), 407);
        y.setSetting(1, 77);
        y.removePipe(1);
        due("not connected: ground", y.temperature(2, false), 77);
        due("not connected: ground, return", y.temperature(2, true), 77);
        mixedTemperature();
    }

    /** Node 3 of the triangle gets 3 at one temperature and 5 at another. */
    private static void mixedTemperature() {
        HeatNetwork x = triangle();
        x.setSetting(3, 99);
        // 0 -> 1: 100 + 800 * 1100 / (1100 + 198) = 777; 1 -> 2: 100 + 677 * 600 / 699 = 681
        due("temperature(1, false)", x.temperature(1, false), 777);
        due("temperature(2, false)", x.temperature(2, false), 681);
        // 2 -> 3: 100 + 581 * 300 / 399 = 536; 1 -> 3: 100 + 677 * 500 / 599 = 665
        // (3 * 536 + 5 * 665) / 8 = 616, 5 left
        due("temperature(3, false)", x.temperature(3, false), 616);
        due("temperature(3, true)", x.temperature(3, true), 200);
        // back 3 -> 2: 100 + 100 * 300 / 399 = 175; (3 * 200 + 3 * 175) / 6 = 187, 3 left
        due("temperature(2, true)", x.temperature(2, true), 187);
        // back 2 -> 1: 100 + 87 * 600 / 699 = 174, 3 -> 1: 100 + 100 * 500 / 599 = 183
        // (6 * 174 + 5 * 183) / 11 = 178, 1 left
        due("temperature(1, true)", x.temperature(1, true), 178);
        due("rounding(3)", x.rounding(3), 5);
        due("rounding(2)", x.rounding(2), 3);
        due("rounding(1)", x.rounding(1), 1);
        due("account(3)", x.account(3), 9);
        due("loss(2): 3 * (681 - 536 + 200 - 175)", x.loss(2), 510);
    }

    private static void loss() {
        HeatNetwork x = oneStation();
        due("4 * (900 - 753 + 300 - 263)", x.loss(0), 736);
        x.setSetting(3, 0);
        due("without a loss", x.loss(0), 0);
        x.removeStation(1);
        x.setSetting(3, 99);
        due("without a flow", x.loss(0), 0);
        thrown("loss(1)", INDEX, () -> x.loss(1));
        thrown("loss(-1)", INDEX, () -> x.loss(-1));
    }

    private static void rounding() {
        HeatNetwork x = twoStations();
        due("2855 = 7 * 407 + 6", x.rounding(1), 6);
        due("rounding(0)", x.rounding(0), 0);
        due("rounding(2)", x.rounding(2), 0);
        due("rounding(9)", x.rounding(9), 0);
        thrown("rounding(10)", INDEX, () -> x.rounding(10));
        thrown("rounding(-1)", INDEX, () -> x.rounding(-1));
        HeatNetwork y = new HeatNetwork();
        y.setSetting(3, 0);
        y.addPipe(0, 1, 1, 1);
        y.addPipe(0, 2, 1, 1);
        y.addStation(1, 6, 300, 2);
        y.addStation(2, 9, 451, 5);
        due("the plant: 2855 = 7 * 407 + 6", y.rounding(0), 6);
    }

    private static void head() {
        HeatNetwork x = twoStations();
        due("head(0)", x.head(0), 0);
        due("6 * 7 * 7", x.head(1), 294);
        due("294 + 5 * 5 * 5", x.head(2), 419);
        thrown("head(3)", ELEMENT, () -> x.head(3));
        thrown("head(10)", ELEMENT, () -> x.head(10));
        thrown("head(-1)", ELEMENT, () -> x.head(-1));
        HeatNetwork y = triangle();
        due("2 * 11 * 11", y.head(1), 242);
        due("242 + 6 * 6", y.head(2), 278);
        due("278 + 3 * 3, by the first pipe of the loop", y.head(3), 287);
        y.addPipe(3, 4, 3, 3);
        y.addStation(4, 1, 200, 1);
        // 1 is drawn at node 4, so the last pipe carries x - 12: 36 + 9 - 36 = 9 at 6
        due("head(3) with a node behind it", y.head(3), 2 * 144 + 36 + 9);
        due("head(4)", y.head(4), 2 * 144 + 36 + 9 + 9);
    }

    private static void neededHead() {
        HeatNetwork x = twoStations();
        due("neededHead()", x.neededHead(), 419);
        x.setReturn(2, 600);
        x.setSetting(0, 649);
        due("only node 1 has a flow, 1200 / 349, rounded up", x.neededHead(), 6 * 16);
        x.setSetting(2, 300);
        due("no flow", x.neededHead(), 0);
        due("the triangle", triangle().neededHead(), 287);
    }

    private static void imbalance() {
        HeatNetwork x = triangle();
        due("36 + 9 - 25", x.imbalance(), 20);
        x.setSetting(2, 300);
        due("a loop without a flow", x.imbalance(), 0);
        x.removePipe(0);
        thrown("the loop is in another part", ELEMENT, () -> x.imbalance());
        thrown("no loop", ELEMENT, () -> twoStations().imbalance());
        HeatNetwork y = new HeatNetwork();
        y.setSetting(3, 0);
        y.addPipe(0, 1, 1, 1);
        y.addPipe(1, 2, 1, 1);
        y.addPipe(2, 0, 1, 1);
        y.addStation(1, 99, 200, 3);
        y.addStation(2, 99, 200, 5);
        due("16 + 1 - 16", y.imbalance(), 1);
        due("at the plant, x is 4", y.flow(0), 4);
        due("at the plant, x - 8", y.flow(2), -4);
        y.removeStation(1);
        y.addStation(1, 99, 200, 5);
        due("25 + 0 - 25", y.imbalance(), 0);
        due("both ways alike, x is 5", y.flow(0), 5);
        due("both ways alike, nothing between", y.flow(1), 0);
    }

    private static void rounds() {
        due("oneStation", oneStation().rounds(), 4);
        due("twoStations", twoStations().rounds(), 2);
        HeatNetwork x = oneStation();
        // 500: 5 at 777, 7 at 808, 6 at 795, 7 at 808 and so on
        x.setReturn(1, 500);
        due("never the same", x.rounds(), 12);
        due("the flow of the twelfth", x.station(1, 6), 7);
    }

    private static void loop() {
        HeatNetwork x = triangle();
        int[] nodes = {1, 2, 3};
        for (int i = 0; i < 3; i++) {
            due("loop(" + i + ")", x.loop(i), nodes[i]);
        }
        thrown("loop(3)", ELEMENT, () -> x.loop(3));
        thrown("loop(-1)", ELEMENT, () -> x.loop(-1));
        thrown("loop far", ELEMENT, () -> x.loop(FAR));
        thrown("no loop", ELEMENT, () -> oneStation().loop(0));
        HeatNetwork y = new HeatNetwork();
        int[] round = {0, 3, 9, 8, 7, 6, 5, 4, 2, 1};
        for (int i = 0; i < 10; i++) {
            y.addPipe(round[i], round[(i + 1) % 10], 1, 1);
        }
        int[] back = {0, 1, 2, 4, 5, 6, 7, 8, 9, 3};
        for (int i = 0; i < 10; i++) {
            due("all nodes, loop(" + i + ")", y.loop(i), back[i]);
        }
        y.removePipe(4);
        thrown("the loop is open", ELEMENT, () -> y.loop(0));
    }

    private static void distance() {
        HeatNetwork x = triangle();
        int[] distances = {0, 1, 2, 2};
        for (int i = 0; i < 4; i++) {
            due("distance(" + i + ")", x.distance(i), distances[i]);
        }
        x.removePipe(1);
        due("distance(3) the long way", x.distance(3), 3);
        thrown("distance(4)", ELEMENT, () -> x.distance(4));
        thrown("distance(10)", ELEMENT, () -> x.distance(10));
        thrown("distance(-1)", ELEMENT, () -> x.distance(-1));
    }

    private static void part() {
        HeatNetwork x = triangle();
        x.addPipe(8, 9, 1, 1);
        due("part(0)", x.part(0), 15);
        due("part(3)", x.part(3), 15);
        due("part(4)", x.part(4), 16);
        due("part(9)", x.part(9), 768);
        x.removePipe(0);
        due("part(0) alone", x.part(0), 1);
        due("part(2)", x.part(2), 14);
        thrown("part(10)", INDEX, () -> x.part(10));
        thrown("part(-1)", INDEX, () -> x.part(-1));
        thrown("part far", INDEX, () -> x.part(FAR_BELOW));
    }

    private static void isConnected() {
        HeatNetwork x = twoStations();
        due("isConnected(0)", x.isConnected(0), true);
        due("isConnected(2)", x.isConnected(2), true);
        due("isConnected(3)", x.isConnected(3), false);
        x.removePipe(0);
        due("isConnected(2) no more", x.isConnected(2), false);
        due("isConnected(0) always", x.isConnected(0), true);
        thrown("isConnected(10)", INDEX, () -> x.isConnected(10));
        thrown("isConnected(-1)", INDEX, () -> x.isConnected(-1));
    }

    private static void suspect() {
        thrown("suspect() of none", ELEMENT, () -> new HeatNetwork().suspect());
        HeatNetwork x = twoStations();
        due("no meter differs", x.suspect(), 1);
        x.setMeter(2, 2, 1100);
        x.hours(1);
        due("too much counts too", x.suspect(), 2);
        x.setMeter(1, 1, 0);
        x.hours(1);
        due("1200 too little is more than 2 * 224", x.suspect(), 1);
        x.removeStation(1);
        due("the removed one does not count", x.suspect(), 2);
    }

    private static void trial() {
        HeatNetwork x = oneStation();
        // 400: 4 at 753, 6 at 795, 5 at 777, 5; the plant gets 100 + 300 * 500 / 590 = 354 back
        due("5 * (900 - 354)", x.trial(1, 400), 2730);
        due("trial as things are", x.trial(1, 300), 2548);
        due("nothing is changed", x.station(1, 1), 300);
        due("flow(0) as before", x.flow(0), 4);
        due("no change", x.count(4), 2);
        thrown("trial(1, 199)", ARGUMENT, () -> x.trial(1, 199));
        thrown("trial(1, 601)", ARGUMENT, () -> x.trial(1, 601));
        thrown("trial(2, 0)", ELEMENT, () -> x.trial(2, 0));
        thrown("trial(0, 300)", ELEMENT, () -> x.trial(0, 300));
        thrown("trial(10, 300)", ELEMENT, () -> x.trial(10, 300));
    }

    private static void bestReturn() {
        HeatNetwork x = oneStation();
        due("a tariff of 0 at 200", x.bestReturn(1), 200);
        x.setSetting(6, 0);
        due("rate 0: 7 * 258 at 550 is least", x.bestReturn(1), 550);
        x.setMeter(1, 2, 900);
        due("rate 0: 162 at 550, 163 at 300", x.bestReturn(1), 550);
        x.setMeter(1, 1, 900);
        due("nothing is counted", x.bestReturn(1), 200);
        x.setMeter(1, 0, 0);
        x.setSetting(5, 999);
        x.setSetting(6, 2);
        due("1812 * 979 / 1000 at 300 is least", x.bestReturn(1), 300);
        due("nothing is changed", x.station(1, 1), 300);
        x.addStation(2, 1, 600, 1);
        due("not connected", x.bestReturn(2), 200);
        thrown("bestReturn(3)", ELEMENT, () -> x.bestReturn(3));
        thrown("bestReturn(0)", ELEMENT, () -> x.bestReturn(0));
        thrown("bestReturn(10)", ELEMENT, () -> x.bestReturn(10));
    }

    private static void account() {
        HeatNetwork x = twoStations();
        long[] now = {7 * 493, 2 * 600 + 5 * 449, 0, 6};
        for (int what = 0; what < 4; what++) {
            due("account(" + what + ")", x.account(what), now[what]);
        }
        x.setMeter(2, 1, 0);
        x.hours(3);
        x.removeStation(1);
        x.hours(2);
        due("account(4)", x.account(4), 5);
        due("account(5)", x.account(5), 3 * 3451 + 2 * 5 * 449);
        due("account(6)", x.account(6), 3 * 3445 + 2 * 5 * 449);
        due("1200 * 50 / 1000 = 60 in three hours, removed then", x.account(7), 180);
        thrown("account(8)", ARGUMENT, () -> x.account(8));
        thrown("account(-1)", ARGUMENT, () -> x.account(-1));
        HeatNetwork y = oneStation();
        due("account(2) of pipes", y.account(2), 736);
        due("account(0) is the sum", y.account(0), y.account(1) + y.account(2) + y.account(3));
    }

    private static void efficiency() {
        due("efficiency()", oneStation().efficiency(), 1812.0 / 2548.0);
        HeatNetwork x = twoStations();
        due("efficiency() with rounding", x.efficiency(), 3445.0 / 3451.0);
        x.setSetting(2, 200);
        thrown("no heat is made", ArithmeticException.class, () -> x.efficiency());
        thrown("a new object", ArithmeticException.class, () -> new HeatNetwork().efficiency());
    }

    private static void returnDegrees() {
        HeatNetwork x = oneStation();
        due("returnDegrees()", x.returnDegrees(), 26.3f);
        x.removeStation(1);
        x.setSetting(1, 7);
        due("without a flow", x.returnDegrees(), 0.7f);
    }

    private static void count() {
        HeatNetwork x = triangle();
        x.addPipe(8, 9, 1, 1);
        write(x, "h1");
        int[] counts = {5, 2, 4, 3, 8, 2};
        for (int what = 0; what < 6; what++) {
            due("count(" + what + ")", x.count(what), counts[what]);
        }
        due("count(2) as the first call", triangle().count(2), 4);
        due("count(3) as the first call", triangle().count(3), 3);
        thrown("count(6)", ARGUMENT, () -> x.count(6));
        thrown("count(-1)", ARGUMENT, () -> x.count(-1));
    }

    private static void undo() {
        HeatNetwork x = new HeatNetwork();
        thrown("undo() of nothing", STATE, () -> x.undo());
        x.addPipe(0, 1, 9, 2);
        x.addStation(1, 9, 300, 9);
        x.setMeter(1, 2, 500);
        x.hours(2);
        x.setReturn(1, 600);
        x.removeStation(1);
        x.removePipe(0);
        runText(x, "p0-2:1,1;t0=600;");
        write(x, "zz");
        due("undo() of run", x.undo(), 7);
        due("setting(0)", x.setting(0), 900);
        due("count(0)", x.count(0), 0);
        due("undo() of removePipe", x.undo(), 6);
        due("pipe(0, 1)", x.pipe(0, 1), 1);
        due("undo() of removeStation", x.undo(), 5);
        due("its meter is back", x.meter(1, 0), 2 * 906);
        due("its bill is back", x.meter(1, 2), 2 * 45);
        due("undo() of setReturn", x.undo(), 4);
        due("flow(0)", x.flow(0), 4);
        due("undo() of hours", x.undo(), 3);
        due("account(4)", x.account(4), 0);
        due("account(5)", x.account(5), 0);
        due("account(7)", x.account(7), 0);
        due("meter(1, 0)", x.meter(1, 0), 0);
        due("undo() of setMeter", x.undo(), 2);
        due("station(1, 4)", x.station(1, 4), 1000);
        due("undo() of addStation", x.undo(), 1);
        due("undo() of addPipe", x.undo(), 0);
        due("count(0)", x.count(0), 0);
        due("the buffer stays", x.count(5), 2);
        thrown("undo() of all", STATE, () -> x.undo());
        undoOfEight();
    }

    private static void undoOfEight() {
        HeatNetwork x = new HeatNetwork();
        for (int i = 0; i < 30; i++) {
            x.setSetting(5, i);
        }
        x.setSetting(5, 29);
        write(x, "t5=7;t5=1;x1;");
        thrown("a refused run forgets no change", REFUSED, () -> x.run());
        thrown("nor does a call that fails", ARGUMENT, () -> x.setSetting(5, 1000));
        due("a change that leaves all as it was counts", x.undo(), 7);
        due("setting(5)", x.setting(5), 29);
        for (int i = 6; i >= 0; i--) {
            due("undo() to " + i, x.undo(), i);
            due("setting(5)", x.setting(5), 22 + i);
        }
        thrown("undo() of a ninth", STATE, () -> x.undo());
        x.setSetting(5, 500);
        due("changes are kept again", x.undo(), 0);
        due("setting(5)", x.setting(5), 22);
    }

    private static void save() {
        HeatNetwork x = new HeatNetwork();
        due("save() of none", x.save(), 0);
        x.addPipe(0, 1, 9, 2);
        x.addPipe(1, 2, 9, 2);
        due("save() of two", x.save(), 2);
        due("saving is no change", x.count(4), 2);
        x.undo();
        due("the later snapshot is kept", x.restore(), 2);
    }

    private static void restore() {
        HeatNetwork x = oneStation();
        thrown("restore() of nothing", STATE, () -> x.restore());
        x.hours(2);
        x.save();
        x.hours(3);
        x.setSetting(0, 1000);
        x.removeStation(1);
        write(x, "p0");
        due("restore()", x.restore(), 1);
        due("setting(0)", x.setting(0), 900);
        due("meter(1, 0)", x.meter(1, 0), 2 * 1812);
        due("account(4)", x.account(4), 2);
        due("account(7)", x.account(7), 180);
        due("flow(0)", x.flow(0), 4);
        due("the buffer stays", x.count(5), 2);
        due("changes are forgotten", x.count(4), 0);
        thrown("undo() behind restore()", STATE, () -> x.undo());
        x.removePipe(0);
        x.addStation(2, 1, 200, 1);
        due("the snapshot is kept", x.restore(), 1);
        due("count(1)", x.count(1), 1);
    }

    /** Rounds that swing ever wider can end with a node that is colder than what its station gives back. */
    private static void heatBelowNothing() {
        HeatNetwork x = new HeatNetwork();
        x.setSetting(0, 1120);
        x.setSetting(3, 82);
        x.setSetting(2, -197);
        x.addPipe(0, 1, 38, 6);
        x.addStation(1, 21, 595, 161);
        x.addPipe(1, 2, 54, 4);
        x.addStation(2, 51, 595, 57);
        // station 1 draws 16, 54, 56, 53, 57, 51, 61, 47, 71, 40, 107, 29, the last at 591; station 2 only 39 at first
        due("rounds()", x.rounds(), 12);
        due("station(1, 6)", x.station(1, 6), 29);
        due("29 * (591 - 595)", x.meter(1, 3), -116);
        x.setMeter(1, 2, 333);
        x.hours(2);
        due("-116 * 333 / 1000 = -39 in each hour", x.meter(1, 0), -78);
        due("-39 * 197 / 1000 = -8 in each hour", x.meter(1, 2), -16);
        due("true heat", x.meter(1, 1), -232);
        due("account(6)", x.account(6), -232);
        due("account(7)", x.account(7), -16);
        due("suspect()", x.suspect(), 1);
        due("efficiency()", x.efficiency(), -116.0 / (29 * (1120 - x.temperature(0, true))));
        due("trial as things are", x.trial(1, 595), x.account(0));
        due("what is made", x.account(0), x.account(1) + x.account(2) + x.account(3));
    }

    public static void main(String[] arguments) {
        newObject();
        setSetting();
        setting();
        addPipe();
        removePipe();
        addStation();
        removeStation();
        setReturn();
        setMeter();
        hours();
        append();
        run();
        faultPosition();
        refusal();
        pipe();
        station();
        meter();
        flow();
        direction();
        temperature();
        loss();
        rounding();
        head();
        neededHead();
        imbalance();
        rounds();
        loop();
        distance();
        part();
        isConnected();
        suspect();
        trial();
        bestReturn();
        account();
        efficiency();
        returnDegrees();
        count();
        undo();
        save();
        restore();
        heatBelowNothing();
        Check.end("PromiseTest");
    }
}
