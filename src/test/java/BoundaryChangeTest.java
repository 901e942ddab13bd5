import java.util.List;
import java.util.function.Supplier;

/** The boundaries of hours, changes, undo, snapshots and of calls that fail: sentence by sentence, by hand. */
public final class BoundaryChangeTest extends ByHand {
    private BoundaryChangeTest() {
    }

    // ---- Networks

    /** A loop with losses behind the plant, a part beside it, stations in both, a meter with a fault; 4 changes. */
    private static HeatNetwork young() {
        HeatNetwork x = new HeatNetwork();
        runText(x, "t5=150;p0-1:9,2;p1-2:5,3;p2-3:7,1;p3-1:4,2;p8-9:1,1;");
        runText(x, "s2:9,300,99;s3:20,400,50;s9:5,500,5;");
        x.setMeter(3, 2, 500);
        x.hours(2);
        x.save();
        return x;
    }

    /** Older by so many changes that the first ones are forgotten; with a fault at 1, the reason 3, and a text. */
    private static HeatNetwork old() {
        HeatNetwork x = young();
        x.setReturn(2, 350);
        x.removeStation(9);
        runText(x, "p3-4:9,9;s4:5,300,20;h3;");
        x.setMeter(2, 1, 7);
        x.setSetting(2, -50);
        x.addPipe(4, 5, 2, 2);
        x.addPipe(5, 6, 3, 3);
        x.removePipe(7);
        x.hours(24);
        write(x, "h;");
        fails(x, y -> y.run());
        fails(x, y -> y.addPipe(0, 0, 1, 1));
        write(x, "h2");
        return x;
    }

    private static void fails(HeatNetwork x, Answers.Made call) {
        try {
            call.on(x);
            due("the call fails", false, true);
        } catch (RuntimeException e) {
            // It should.
        }
    }

    /** 49500 / 50 is wanted at most at each station, through pipes without losses. */
    private static HeatNetwork strong() {
        HeatNetwork x = new HeatNetwork();
        x.setSetting(0, 650);
        x.setSetting(2, -300);
        x.setSetting(3, 0);
        return x;
    }

    private static HeatNetwork strained() {
        HeatNetwork x = old();
        x.setSetting(4, 1);
        return x;
    }

    private static HeatNetwork fullBuffer() {
        HeatNetwork x = old();
        for (int i = 2; i < 60; i++) {
            x.append('0');
        }
        return x;
    }

    // ---- Hours

    private static void headLimits() {
        HeatNetwork x = strong();
        x.addPipe(0, 1, 25, 8);
        x.addStation(1, 99, 600, 500);
        due("200 * 500 * 500", x.neededHead(), 50000000);
        due("just as great as the greatest head at first", x.hours(1), 1);
        x.setSetting(4, 49999999);
        refused("greater by 1", 7, x, () -> x.hours(1));
        x.setSetting(4, 50000001);
        due("less by 1", x.hours(24), 25);
        HeatNetwork y = strong();
        y.addPipe(0, 1, 13, 9);
        y.addPipe(1, 2, 98, 9);
        y.addStation(1, 99, 600, 298);
        y.addStation(2, 99, 600, 961);
        y.setSetting(4, 999999999);
        due("117 * 1259 * 1259 + 882 * 961 * 961", y.neededHead(), 999999999);
        due("just as great as the greatest of all", y.hours(1), 1);
        y.setSetting(4, 999999998);
        refused("greater by 1", 7, y, () -> y.hours(1));
        HeatNetwork z = strong();
        for (int node = 1; node < 6; node++) {
            z.addPipe(node - 1, node, 99, 8);
        }
        z.addPipe(5, 6, 5, 8);
        z.addStation(6, 99, 600, 500);
        z.setSetting(4, 999999999);
        due("4000 * 500 * 500", z.neededHead(), 1000000000);
        refused("greater by 1 than the greatest of all", 7, z, () -> z.hours(1));
    }

    private static void leastHeads() {
        HeatNetwork x = new HeatNetwork();
        x.setSetting(4, 1);
        due("no head is needed", x.hours(1), 1);
        x.addPipe(0, 1, 1, 1);
        x.addStation(1, 99, 200, 1);
        due("neededHead()", x.neededHead(), 1);
        due("a head of 1", x.hours(1), 2);
        x.removePipe(0);
        x.addPipe(0, 1, 2, 1);
        due("neededHead()", x.neededHead(), 2);
        refused("a head of 2", 7, x, () -> x.hours(1));
        due("2 hours still", x.account(4), 2);
        x.setSetting(2, 200);
        due("nothing is wanted, so no head is needed", x.hours(1), 3);
    }

    private static void counts() {
        HeatNetwork x = oneStation();
        due("hours(1)", x.hours(1), 1);
        due("hours(24)", x.hours(24), 25);
        int[] bad = {0, 25, -1, -24, 48, 256 + 1, 65536 + 24, FAR, FAR_BELOW, FAR_BELOW + 1};
        for (int count : bad) {
            thrown("hours(" + count + ")", ARGUMENT, () -> x.hours(count));
        }
        due("25 hours still", x.account(4), 25);
        x.setSetting(4, 1);
        for (int count : bad) {
            thrown("hours(" + count + ") under too great a head", ARGUMENT, () -> x.hours(count));
        }
        thrown("no reason is kept", ELEMENT, () -> x.refusal());
        refused("hours(24) under too great a head", 7, x, () -> x.hours(24));
        x.undo();
        due("undone, the 24", x.undo(), 3);
        due("hours(2)", x.hours(2), 3);
    }

    private static void growing() {
        HeatNetwork x = oneStation();
        HeatNetwork y = oneStation();
        x.hours(24);
        for (int i = 0; i < 24; i++) {
            y.hours(1);
        }
        for (int what = 4; what < 8; what++) {
            due("24 hours at once, account(" + what + ")", x.account(what), y.account(what));
        }
        long[] accounts = {24, 24 * 2548, 24 * 1812, 24 * 90};
        for (int what = 4; what < 8; what++) {
            due("account(" + what + ")", x.account(what), accounts[what - 4]);
        }
        long[] meters = {24 * 1812, 24 * 1812, 24 * 90};
        for (int what = 0; what < 3; what++) {
            due("meter(1, " + what + ")", x.meter(1, what), meters[what]);
        }
        HeatNetwork none = new HeatNetwork();
        due("hours of nothing", none.hours(24), 24);
        due("account(5) of nothing", none.account(5), 0);
        due("account(7) of nothing", none.account(7), 0);
    }

    private static void hours() {
        Sentence.says("Hours", "Hours are refused for the reason 7.", () -> headLimits());
        Sentence.says("Promise 10", "Throws UnsupportedOperationException if they are refused for the reason 7; the "
                + "reason is kept for refusal", () -> leastHeads());
        Sentence.says("Promise 10", "Throws IllegalArgumentException if the count is out of range", () -> counts());
        Sentence.says("Promise 10", "how many, 1 to 24", () -> counts());
        Sentence.says("Promise 10", "Returns the number of hours that went by in all.", () -> {
            HeatNetwork x = new HeatNetwork();
            due("the first", x.hours(1), 1);
            due("24 more", x.hours(24), 25);
            x.undo();
            due("24 again", x.hours(24), 25);
            due("in a text", runText(x, "h1;h2;"), 2);
            due("one more", x.hours(1), 29);
            x.save();
            x.hours(24);
            x.restore();
            due("behind restore", x.hours(1), 30);
        });
        Sentence.says("Hours", "in each of them meters, true heat, bills and the accounts of all hours grow.",
                () -> growing());
        Sentence.says("Promise 34", "7 for all that was paid in them, also at stations that are removed", () -> {
            HeatNetwork x = oneStation();
            x.hours(2);
            x.removeStation(1);
            due("behind the removal", x.account(7), 180);
            x.addStation(1, 9, 300, 9);
            x.hours(1);
            due("with another one", x.account(7), 270);
            due("of which it paid", x.meter(1, 2), 90);
        });
    }

    // ---- Changes

    private static void change(HeatNetwork x, String name, int due, Answers.Made call) {
        call.on(x);
        due("changes behind " + name, x.count(4), due);
    }

    private static void whatIsAChange() {
        HeatNetwork x = new HeatNetwork();
        due("none at first", x.count(4), 0);
        change(x, "setSetting", 1, y -> y.setSetting(0, 800));
        change(x, "addPipe", 2, y -> y.addPipe(0, 1, 1, 1));
        change(x, "removePipe", 3, y -> y.removePipe(0));
        change(x, "addStation", 4, y -> y.addStation(1, 9, 300, 9));
        change(x, "setReturn", 5, y -> y.setReturn(1, 400));
        change(x, "setMeter", 6, y -> y.setMeter(1, 1, 1));
        change(x, "hours", 7, y -> y.hours(1));
        x.undo();
        x.undo();
        change(x, "removeStation", 6, y -> y.removeStation(1));
        change(x, "run", 7, y -> runText(y, "h1;h1;"));
        change(x, "save", 7, y -> y.save());
        change(x, "append", 7, y -> y.append('h'));
        change(x, "the answers", 7, y -> Answers.of(y));
        change(x, "an eighth", 8, y -> y.hours(1));
        change(x, "a ninth", 8, y -> y.hours(1));
        change(x, "undo", 7, y -> y.undo());
        change(x, "restore", 0, y -> y.restore());
        change(x, "restore once more", 0, y -> y.restore());
    }

    private static void latestEight() {
        for (int made = 0; made < 40; made++) {
            HeatNetwork x = new HeatNetwork();
            for (int i = 1; i <= made; i++) {
                x.setSetting(5, i);
            }
            int kept = Math.min(made, 8);
            due(made + " changes", x.count(4), kept);
            for (int left = kept - 1; left >= 0; left--) {
                due(made + " changes, undo()", x.undo(), left);
                int value = made - (kept - left);
                due(made + " changes, setting(5)", x.setting(5), value == 0 ? 100 : value);
            }
            thrown(made + " changes, no more are kept", STATE, () -> x.undo());
            due(made + " changes, setting(5) still", x.setting(5), made > 8 ? made - 8 : 100);
        }
    }

    private static void changesBetweenUndos() {
        HeatNetwork x = new HeatNetwork();
        int[] values = new int[200];
        values[0] = 100;
        int top = 0;
        for (int i = 0; i < 30; i++) {
            for (int j = 0; j < 5; j++) {
                top++;
                values[top] = i * 5 + j;
                x.setSetting(5, values[top]);
            }
            for (int j = 0; j < 4; j++) {
                x.undo();
                top--;
                due("setting(5) behind undo " + i + ", " + j, x.setting(5), values[top]);
            }
            due("the changes that are kept", x.count(4), Math.min(8 - 4, i + 1));
        }
    }

    private static void staysThrough(String name, HeatNetwork x, int reason, int fault, int signs) {
        due(name + ", refusal()", x.refusal(), reason);
        due(name + ", faultPosition()", x.faultPosition(), fault);
        due(name + ", count(5)", x.count(5), signs);
    }

    private static void whatStays() {
        HeatNetwork x = new HeatNetwork();
        x.save();
        x.setSetting(0, 800);
        x.setSetting(0, 700);
        write(x, "h;");
        fails(x, y -> y.run());
        fails(x, y -> y.removeStation(0));
        write(x, "h24");
        staysThrough("at first", x, 1, 1, 3);
        x.undo();
        staysThrough("behind undo", x, 1, 1, 3);
        x.restore();
        staysThrough("behind restore", x, 1, 1, 3);
        x.append(';');
        due("the text is read on", x.run(), 1);
        due("24 hours", x.account(4), 24);
        due("its fault position", x.faultPosition(), -1);
        x.undo();
        due("the fault position of the run that is undone", x.faultPosition(), -1);
        due("the buffer of the run that is undone", x.count(5), 0);
        x.save();
        fails(x, y -> y.removeStation(9));
        write(x, "hh");
        fails(x, y -> y.run());
        x.append('h');
        x.restore();
        staysThrough("what came behind save", x, 6, 1, 1);
    }

    private static void changeOfNothing() {
        HeatNetwork x = oneStation();
        due("two", x.count(4), 2);
        x.setSetting(0, 900);
        due("the same setting", x.count(4), 3);
        x.setReturn(1, 300);
        due("the same return temperature", x.count(4), 4);
        x.setMeter(1, 0, 1000);
        due("the same fault", x.count(4), 5);
        runText(x, "t0=900;");
        due("the same in a text", x.count(4), 6);
        runText(x, "s2:1,200,1;x2;");
        due("a text that takes back what it does", x.count(4), 7);
        due("undo() of that", x.undo(), 6);
        due("and of all", x.undo() + x.undo() + x.undo() + x.undo(), 5 + 4 + 3 + 2);
        due("the station is still there", x.undo(), 1);
        thrown("and is not now", ELEMENT, () -> x.station(1, 0));
    }

    private static void undoOf(String name, Answers.Made call) {
        Answers.stay(name + " and its undo", () -> young(), x -> {
            call.on(x);
            return x.undo();
        });
        Answers.stay(name + " and restore", () -> restored(young()), x -> {
            call.on(x);
            return x.restore();
        });
        Answers.stay(name + ", restore, once more, and restore", () -> restored(young()), x -> {
            call.on(x);
            x.restore();
            call.on(x);
            return x.restore();
        });
    }

    private static HeatNetwork restored(HeatNetwork x) {
        x.restore();
        return x;
    }

    private static void backAgain() {
        for (int setting = 0; setting < 7; setting++) {
            int changed = setting;
            undoOf("setSetting " + setting, x -> x.setSetting(changed, changed == 2 ? -7 : changed == 0 ? 777 : 77));
        }
        undoOf("addPipe", x -> x.addPipe(7, 8, 3, 3));
        undoOf("addPipe to the other part", x -> x.addPipe(3, 8, 3, 3));
        for (int pipe = 0; pipe < 5; pipe++) {
            int gone = pipe;
            undoOf("removePipe " + pipe, x -> x.removePipe(gone));
        }
        undoOf("addStation", x -> x.addStation(1, 2, 222, 2));
        undoOf("addStation at the end", x -> x.addStation(8, 2, 222, 2));
        undoOf("removeStation", x -> x.removeStation(3));
        undoOf("removeStation at the end", x -> x.removeStation(9));
        undoOf("setReturn", x -> x.setReturn(2, 222));
        undoOf("setMeter", x -> x.setMeter(9, 1, 22));
        undoOf("hours", x -> x.hours(24));
        undoOf("run", x -> runText(x, "x3;s3:2,222,2;h7;t5=7;p0-8:2,2;h7;x9;"));
        undoOf("removing all pipes at once", x -> runText(x, "x2;x3;x9;s4:1,200,1;t0=600;t1=0;t3=99;h1;"));
    }

    private static void metersBack() {
        HeatNetwork x = oneStation();
        x.setMeter(1, 2, 500);
        x.hours(2);
        x.save();
        long[] meters = {2 * 906, 2 * 1812, 2 * 45};
        long[] accounts = {2, 2 * 2548, 2 * 1812, 2 * 45};
        Runnable asBefore = () -> {
            for (int what = 0; what < 3; what++) {
                due("meter(1, " + what + ")", x.meter(1, what), meters[what]);
            }
            for (int what = 4; what < 8; what++) {
                due("account(" + what + ")", x.account(what), accounts[what - 4]);
            }
        };
        x.hours(24);
        x.undo();
        asBefore.run();
        x.removeStation(1);
        x.undo();
        asBefore.run();
        runText(x, "h9;x1;s1:1,200,1;h9;");
        x.undo();
        asBefore.run();
        x.hours(24);
        x.restore();
        asBefore.run();
        x.removeStation(1);
        x.addStation(1, 1, 200, 1);
        x.hours(1);
        x.restore();
        asBefore.run();
        x.hours(1);
        due("the next hour", x.meter(1, 0), 3 * 906);
    }

    /** What follows from a change is told by the very next call. */
    private static void nextAnswers() {
        Supplier<HeatNetwork> changed = () -> {
            HeatNetwork x = young();
            x.rounds();
            x.setReturn(2, 500);
            runText(x, "p4-3:9,9;s4:5,300,20;t1=50;");
            return x;
        };
        for (Supplier<HeatNetwork> made : List.<Supplier<HeatNetwork>>of(() -> young(), changed)) {
            Answers.askedFirst("asked first", made, x -> x.pipe(1, 4), x -> x.station(2, 6), x -> x.meter(3, 3),
                    x -> x.flow(3), x -> x.direction(3), x -> x.temperature(3, false), x -> x.temperature(2, true),
                    x -> x.loss(2), x -> x.rounding(3), x -> x.head(2), x -> x.neededHead(), x -> x.imbalance(),
                    x -> x.rounds(), x -> x.loop(2), x -> x.distance(3), x -> x.part(3), x -> x.isConnected(3),
                    x -> x.suspect(), x -> x.trial(2, 250), x -> x.bestReturn(3), x -> x.account(0),
                    x -> x.account(1), x -> x.account(2), x -> x.account(3), x -> x.efficiency(),
                    x -> x.returnDegrees(), x -> x.count(2), x -> x.count(3));
            Answers.askedFirst("hours first", made, x -> x.hours(3) + x.account(5),
                    x -> runText(x, "h3;") + x.account(5));
        }
    }

    private static void changes() {
        nextAnswers();
        Sentence.says("Changes", "A change is a successful call of setSetting, addPipe, removePipe, addStation, "
                + "removeStation, setReturn, setMeter, hours or run.", () -> whatIsAChange());
        Sentence.says("Changes", "The network before each of the latest 8 changes is kept and can be undone", () -> {
            latestEight();
            changesBetweenUndos();
        });
        Sentence.says("Changes", "restore forgets them.", () -> {
            HeatNetwork x = oneStation();
            x.save();
            x.restore();
            due("none is kept", x.count(4), 0);
            thrown("undo() behind restore()", STATE, () -> x.undo());
            due("flow(0)", x.flow(0), 4);
            x.hours(1);
            due("only what comes behind it", x.undo(), 0);
            thrown("undo() of no more", STATE, () -> x.undo());
            due("flow(0) still", x.flow(0), 4);
        });
        Sentence.says("Changes", "The text buffer, the fault position and the reason that is kept do not belong to it, "
                + "and stay.", () -> whatStays());
        Sentence.says("Changes", "A successful call is a change even if it leaves all as it was.",
                () -> changeOfNothing());
        Sentence.says("Details", "Undoing and restoring give meters, bills and accounts back.", () -> {
            metersBack();
            backAgain();
        });
    }

    // ---- Promises 38 to 40

    private static void undos() {
        Sentence.says("Promise 38", "Throws IllegalStateException if no change is kept", () -> {
            HeatNetwork x = new HeatNetwork();
            thrown("undo() of nothing", STATE, () -> x.undo());
            x.addPipe(0, 1, 1, 1);
            due("undo() of one", x.undo(), 0);
            thrown("undo() of one, twice", STATE, () -> x.undo());
            due("no pipe", x.count(0), 0);
            for (int i = 0; i < 9; i++) {
                x.addPipe(i, i + 1, 1, 1);
            }
            for (int left = 7; left >= 0; left--) {
                due("undo() of eight", x.undo(), left);
            }
            thrown("undo() of a ninth", STATE, () -> x.undo());
            due("the first of nine pipes stays", x.count(0), 1);
        });
        Sentence.says("Promise 38", "Returns the number of changes that can still be undone.", () -> {
            HeatNetwork x = oneStation();
            due("one of two", x.undo(), 1);
            due("none of two", x.undo(), 0);
        });
    }

    private static void snapshots() {
        HeatNetwork x = new HeatNetwork();
        thrown("restore() of nothing", STATE, () -> x.restore());
        due("save() of nothing", x.save(), 0);
        x.addPipe(0, 1, 1, 1);
        due("restore() of nothing that is saved", x.restore(), 0);
        HeatNetwork y = fullOfPipes();
        due("save() of ten pipes", y.save(), 10);
        due("saving is no change", y.count(4), 8);
        y.removePipe(0);
        y.removePipe(0);
        due("restore() of ten pipes", y.restore(), 10);
        due("pipe(0, 1)", y.pipe(0, 1), 1);
        y.removePipe(5);
        due("the snapshot is kept", y.restore(), 10);
        due("pipe(5, 0)", y.pipe(5, 0), 5);
        y.removePipe(0);
        due("save() in place of it", y.save(), 9);
        y.removePipe(0);
        due("restore() of the later one", y.restore(), 9);
        due("pipe(0, 0)", y.pipe(0, 0), 1);
        y.removePipe(0);
        y.undo();
        due("undo and the snapshot do not meet", y.restore(), 9);
        HeatNetwork z = oneStation();
        z.save();
        z.undo();
        z.undo();
        due("a snapshot of what is undone since", z.restore(), 1);
        due("with its station", z.station(1, 0), 9);
        due("and its flow", z.flow(0), 4);
    }

    private static void saved() {
        Sentence.says("Promise 39", "Saves the network, in place of an earlier snapshot.", () -> snapshots());
        Sentence.says("Promise 39", "Returns the number of pipes.", () -> snapshots());
        Sentence.says("Promise 40", "Returns the number of pipes.", () -> snapshots());
        Sentence.says("Promise 40", "Restores the network that was saved; the snapshot is kept.", () -> snapshots());
        Sentence.says("Promise 40", "Throws IllegalStateException if there is no snapshot", () -> {
            HeatNetwork x = oneStation();
            thrown("restore() of nothing", STATE, () -> x.restore());
            due("nothing is forgotten by it", x.count(4), 2);
            due("nor taken away", x.flow(0), 4);
            x.save();
            due("restore()", x.restore(), 1);
        });
    }

    // ---- Calls that fail

    /** The call ends with the exception, and leaves all as it is: now, behind each undo, and behind restore. */
    private static void leaves(String name, Supplier<HeatNetwork> made, Class<? extends RuntimeException> exception,
            Answers.Made call) {
        HeatNetwork x = made.get();
        int reason = x.refusal();
        int fault = x.faultPosition();
        int signs = x.count(5);
        thrown(name, exception, () -> call.on(x));
        staysThrough(name, x, reason, fault, signs);
        Answers.stay(name, made, call);
    }

    /** As leaves, but for the reason. */
    private static void isRefused(String name, Supplier<HeatNetwork> made, int reason, Answers.Made call) {
        HeatNetwork x = made.get();
        int fault = x.faultPosition();
        int signs = x.count(5);
        thrown(name, REFUSED, () -> call.on(x));
        staysThrough(name, x, reason, fault, signs);
        Answers.stay(name, made, call);
    }

    /** The text is written behind what is in the buffer; the run ends with the exception, and empties the buffer. */
    private static void failsToRun(Supplier<HeatNetwork> made, String text, Class<? extends RuntimeException> exception,
            int reason, int fault) {
        Supplier<HeatNetwork> written = () -> {
            HeatNetwork x = made.get();
            write(x, text);
            return x;
        };
        HeatNetwork x = written.get();
        thrown("run() of .." + text, exception, () -> x.run());
        staysThrough("run() of .." + text, x, reason, fault, 0);
        Answers.stay("run() of .." + text, written, y -> y.run());
    }

    private static void failingChanges() {
        Supplier<HeatNetwork> old = () -> old();
        leaves("setSetting(7, 0)", old, INDEX, x -> x.setSetting(7, 0));
        leaves("setSetting(-1, 0)", old, INDEX, x -> x.setSetting(-1, 0));
        leaves("setSetting(0, 599)", old, ARGUMENT, x -> x.setSetting(0, 599));
        leaves("setSetting(6, 100)", old, ARGUMENT, x -> x.setSetting(6, 100));
        leaves("removePipe(-1)", old, INDEX, x -> x.removePipe(-1));
        leaves("removePipe(7)", old, INDEX, x -> x.removePipe(7));
        leaves("setReturn(5, 300)", old, ELEMENT, x -> x.setReturn(5, 300));
        leaves("setReturn(2, 199)", old, ARGUMENT, x -> x.setReturn(2, 199));
        leaves("setReturn(2, 601)", old, ARGUMENT, x -> x.setReturn(2, 601));
        leaves("setMeter(5, 0, 0)", old, ELEMENT, x -> x.setMeter(5, 0, 0));
        leaves("setMeter(3, 3, 0)", old, ARGUMENT, x -> x.setMeter(3, 3, 0));
        leaves("setMeter(3, 0, 2001)", old, ARGUMENT, x -> x.setMeter(3, 0, 2001));
        leaves("hours(0)", old, ARGUMENT, x -> x.hours(0));
        leaves("hours(25)", old, ARGUMENT, x -> x.hours(25));
        leaves("hours(25) under too great a head", () -> strained(), ARGUMENT, x -> x.hours(25));
        leaves("append(31)", old, ARGUMENT, x -> x.append(31));
        leaves("append(127)", old, ARGUMENT, x -> x.append(127));
        leaves("append to 60", () -> fullBuffer(), STATE, x -> x.append('0'));
        isRefused("addPipe, 1", old, 1, x -> x.addPipe(0, 10, 1, 1));
        isRefused("addPipe, 2", old, 2, x -> x.addPipe(0, 9, 0, 1));
        isRefused("addPipe, 3", old, 3, x -> x.addPipe(2, 1, 1, 1));
        isRefused("addPipe, 5", old, 5, x -> x.addPipe(0, 2, 1, 1));
        isRefused("addStation, 1", old, 1, x -> x.addStation(0, 1, 200, 1));
        isRefused("addStation, 2", old, 2, x -> x.addStation(5, 1, 200, 1000));
        isRefused("addStation, 6", old, 6, x -> x.addStation(2, 1, 200, 1));
        isRefused("removeStation, 1", old, 1, x -> x.removeStation(0));
        isRefused("removeStation, 6", old, 6, x -> x.removeStation(9));
        isRefused("hours, 7", () -> strained(), 7, x -> x.hours(24));
        isRefused("addPipe, 4", () -> {
            HeatNetwork x = fullOfPipes();
            fails(x, y -> y.addPipe(0, 0, 1, 1));
            return x;
        }, 4, x -> x.addPipe(0, 5, 1, 1));
    }

    private static void failingAnswers() {
        Supplier<HeatNetwork> old = () -> old();
        leaves("setting(7)", old, INDEX, x -> x.setting(7));
        leaves("pipe(7, 0)", old, INDEX, x -> x.pipe(7, 0));
        leaves("pipe(0, 5)", old, ARGUMENT, x -> x.pipe(0, 5));
        leaves("station(5, 0)", old, ELEMENT, x -> x.station(5, 0));
        leaves("station(2, 8)", old, ARGUMENT, x -> x.station(2, 8));
        leaves("meter(5, 0)", old, ELEMENT, x -> x.meter(5, 0));
        leaves("meter(2, 4)", old, ARGUMENT, x -> x.meter(2, 4));
        leaves("flow(7)", old, INDEX, x -> x.flow(7));
        leaves("direction(7)", old, INDEX, x -> x.direction(7));
        leaves("temperature(10, true)", old, INDEX, x -> x.temperature(10, true));
        leaves("loss(7)", old, INDEX, x -> x.loss(7));
        leaves("rounding(10)", old, INDEX, x -> x.rounding(10));
        leaves("head(9)", old, ELEMENT, x -> x.head(9));
        leaves("loop(3)", old, ELEMENT, x -> x.loop(3));
        leaves("distance(9)", old, ELEMENT, x -> x.distance(9));
        leaves("part(10)", old, INDEX, x -> x.part(10));
        leaves("isConnected(10)", old, INDEX, x -> x.isConnected(10));
        leaves("trial(5, 300)", old, ELEMENT, x -> x.trial(5, 300));
        leaves("trial(2, 601)", old, ARGUMENT, x -> x.trial(2, 601));
        leaves("bestReturn(5)", old, ELEMENT, x -> x.bestReturn(5));
        leaves("account(8)", old, ARGUMENT, x -> x.account(8));
        leaves("count(6)", old, ARGUMENT, x -> x.count(6));
        Answers.stay("trial(2, 600)", old, x -> x.trial(2, 600));
        Answers.stay("bestReturn(3)", old, x -> x.bestReturn(3));
        Answers.stay("suspect()", old, x -> x.suspect());
        Answers.stay("imbalance() without a loop", () -> oneStation(), x -> x.imbalance());
        Answers.stay("efficiency() without heat", () -> chainOfTen(), x -> x.efficiency());
        Answers.stay("suspect() without a station", () -> chainOfTen(), x -> x.suspect());
        Answers.stay("refusal() of nothing", () -> oneStation(), x -> x.refusal());
        Answers.stay("undo() of nothing", () -> new HeatNetwork(), x -> x.undo());
        Answers.stay("restore() of nothing", () -> oneStation(), x -> x.restore());
    }

    private static void failingTexts() {
        Supplier<HeatNetwork> old = () -> old();
        failsToRun(old, "", ARGUMENT, 3, 2);
        failsToRun(old, ";h", ARGUMENT, 3, 4);
        failsToRun(old, ";x2;x3;p0-2:1,1;t0=", ARGUMENT, 3, 21);
        failsToRun(old, ";x2;s2:1,200,1;x3;t0=600;p3-8:1,1;x3;", REFUSED, 6, -1);
        failsToRun(old, ";t1=0;t3=0;p5-7:1,1;h24;p0-2:1,1;", REFUSED, 5, -1);
        failsToRun(old, ";x2;x3;x4;h24;t5=0;t9=0;", REFUSED, 1, -1);
        failsToRun(old, ";x4;s4:9,300,9;h9;h0;", REFUSED, 2, -1);
        failsToRun(() -> strained(), "4;", REFUSED, 7, -1);
        failsToRun(() -> strained(), ";t4=999;p5-7:1,1;x2;", REFUSED, 7, -1);
        failsToRun(() -> fullBuffer(), "", ARGUMENT, 3, 4);
        HeatNetwork x = strained();
        write(x, "4;t4=999;");
        thrown("a head is looked at when its hour comes", REFUSED, () -> x.run());
        due("and not behind it", x.setting(4), 1);
    }

    /** Where a call has two reasons to fail, the exception is that of the one that the document lists first. */
    private static void firstListed() {
        HeatNetwork x = strained();
        thrown("setSetting: no setting, out of range", INDEX, () -> x.setSetting(7, -1000));
        thrown("setReturn: no station, out of range", ELEMENT, () -> x.setReturn(5, 601));
        thrown("setReturn: no node, out of range", ELEMENT, () -> x.setReturn(10, 199));
        thrown("setMeter: no station, out of range", ELEMENT, () -> x.setMeter(0, 3, 2001));
        thrown("hours: out of range, refused", ARGUMENT, () -> x.hours(25));
        thrown("pipe: no pipe, out of range", INDEX, () -> x.pipe(7, 5));
        thrown("station: no station, out of range", ELEMENT, () -> x.station(0, 8));
        thrown("meter: no station, out of range", ELEMENT, () -> x.meter(9, -1));
        thrown("trial: no station, out of range", ELEMENT, () -> x.trial(9, 199));
        HeatNetwork y = fullBuffer();
        thrown("append: out of range, full", ARGUMENT, () -> y.append(127));
        write(x, ";x9");
        thrown("run: a fault, refused", ARGUMENT, () -> x.run());
        due("no reason came of them", x.refusal(), 3);
    }

    private static void exceptions() {
        Sentence.says("Exceptions", "A call that throws an exception leaves the state unchanged, unless stated "
                + "otherwise.", () -> {
            failingChanges();
            failingAnswers();
            failingTexts();
        });
        Sentence.says("Exceptions", "If several conditions of a method are fulfilled, the one that is listed first "
                + "determines the exception.", () -> firstListed());
    }

    static void all() {
        hours();
        changes();
        undos();
        saved();
        exceptions();
    }

    public static void main(String[] arguments) {
        all();
        Check.end("BoundaryChangeTest");
    }
}
