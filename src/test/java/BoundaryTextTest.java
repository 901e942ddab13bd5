import java.util.regex.Matcher;
import java.util.regex.Pattern;

/** The boundaries of the text form and of what texts refuse: sentence by sentence, worked out by hand. */
public final class BoundaryTextTest extends ByHand {
    /** The sentences on texts once more, in another notation. */
    private static final Pattern TEXT = Pattern.compile("(?:p\\d-\\d:\\d{1,3},\\d{1,3};"
            + "|s\\d:\\d{1,3},\\d{1,3},\\d{1,3};|x\\d;|t\\d=-?\\d{1,3};|h\\d{1,3};)+");

    private BoundaryTextTest() {
    }

    // ---- What is a text and what is not

    private static boolean canGoOn(String begun) {
        Matcher m = TEXT.matcher(begun);
        return m.matches() || m.hitEnd();
    }

    private static int faultOf(String text) {
        for (int i = 0; i < text.length(); i++) {
            if (!canGoOn(text.substring(0, i + 1))) {
                return i;
            }
        }
        return TEXT.matcher(text).matches() ? -1 : text.length();
    }

    private static void readsAs(String text, int fault) {
        HeatNetwork x = new HeatNetwork();
        write(x, text);
        Object end = 0;
        try {
            x.run();
        } catch (RuntimeException e) {
            end = e.getClass();
        }
        due("a fault in " + text, end == ARGUMENT, fault >= 0);
        due("faultPosition() behind " + text, x.faultPosition(), fault);
        due("the buffer behind " + text, x.count(5), 0);
    }

    /** Each beginning of each text goes on with each character there is, or ends. */
    private static void everyCharacter(String... texts) {
        for (String text : texts) {
            due("a right text: " + text, faultOf(text), -1);
            for (int begun = 0; begun <= text.length(); begun++) {
                String beginning = text.substring(0, begun);
                readsAs(beginning, faultOf(beginning));
                for (char sign = 32; sign < 127; sign++) {
                    readsAs(beginning + sign, faultOf(beginning + sign));
                }
            }
        }
    }

    private static void forms() {
        Sentence.says("Texts", "A text consists of one or more definitions, each followed by \";\"", () -> {
            readsAs("", 0);
            readsAs(";", 0);
            readsAs("h1", 2);
            readsAs("h1;", -1);
            readsAs("h1;;", 3);
            readsAs("h1;h2", 5);
            readsAs("h1;h2;", -1);
            readsAs("h1h2;", 2);
            readsAs("h1; h2;", 3);
            everyCharacter("h1;x1;");
        });
        Sentence.says("Texts", "\"p\", a node, \"-\", a node, \":\", a length, \",\" and a roughness, for a pipe",
                () -> everyCharacter("p0-9:1,9;", "p9-0:123,456;"));
        Sentence.says("Texts", "\"s\", a node, \":\", a size, \",\", a return temperature, \",\" and a greatest flow, "
                + "for a station", () -> everyCharacter("s0:1,2,3;", "s9:123,456,789;"));
        Sentence.says("Texts", "\"x\" and a node, for removing a station", () -> everyCharacter("x0;", "x9;"));
        Sentence.says("Texts", "\"t\", a setting, \"=\" and a number, possibly with \"-\" ahead of it, for a setting",
                () -> everyCharacter("t0=1;", "t9=123;", "t5=-1;", "t2=-987;"));
        Sentence.says("Texts", "or \"h\" and a number of hours, 1 to 24.",
                () -> everyCharacter("h0;", "h24;", "h999;"));
        Sentence.says("Texts", "Nodes and settings are single digits; other numbers have 1 to 3 digits.",
                () -> digits());
        Sentence.says("Texts", "The fault position of a text is the index of its first character that cannot continue "
                + "such a text, or the length of the text if it ends too early.", () -> faultPositions());
    }

    private static void digits() {
        readsAs("x;", 1);
        readsAs("x12;", 2);
        readsAs("p-1:1,1;", 1);
        readsAs("p12-1:1,1;", 2);
        readsAs("p1-:1,1;", 3);
        readsAs("p1-12:1,1;", 4);
        readsAs("s:1,1,1;", 1);
        readsAs("s10:1,1,1;", 2);
        readsAs("t=1;", 1);
        readsAs("t10=1;", 2);
        readsAs("p0-1:,1;", 5);
        readsAs("p0-1:999,1;", -1);
        readsAs("p0-1:1000,1;", 8);
        readsAs("p0-1:1,;", 7);
        readsAs("p0-1:1,999;", -1);
        readsAs("p0-1:1,1000;", 10);
        readsAs("s1:,1,1;", 3);
        readsAs("s1:1000,1,1;", 6);
        readsAs("s1:1,,1;", 5);
        readsAs("s1:1,1000,1;", 8);
        readsAs("s1:1,1,;", 7);
        readsAs("s1:1,1,1000;", 10);
        readsAs("t1=;", 3);
        readsAs("t1=-;", 4);
        readsAs("t1=1000;", 6);
        readsAs("t1=-1000;", 7);
        readsAs("t0=1200;", 6);
        readsAs("h;", 1);
        readsAs("h0024;", 4);
        readsAs("t1=--1;", 4);
        readsAs("h-1;", 1);
        readsAs("p0-1:-1,1;", 5);
        readsAs("t-1=1;", 1);
    }

    private static String times(int count, String text) {
        return text.repeat(count);
    }

    private static void faultPositions() {
        readsAs("y", 0);
        readsAs("P0-1:1,1;", 0);
        readsAs("h1;y", 3);
        readsAs("h1;h", 4);
        readsAs(times(20, "h1;"), -1);
        readsAs(times(19, "h1;") + "h12", 60);
        readsAs(times(19, "h1;") + "h1 ", 59);
        readsAs(times(19, "h1;") + "h;;", 58);
        readsAs(times(19, "h1;") + " 1;", 57);
        readsAs(times(19, "h1;") + "h1", 59);
        readsAs(times(19, "h1;"), -1);
        readsAs(times(60, "h"), 1);
        readsAs(times(60, "0"), 0);
        readsAs("y1;" + times(19, "h1;"), 0);
        // the text of the latest call of run is meant, not what is appended since
        HeatNetwork x = new HeatNetwork();
        due("run has not been called", x.faultPosition(), -1);
        write(x, "h1;q");
        due("nor has it now", x.faultPosition(), -1);
        thrown("run() of h1;q", ARGUMENT, () -> x.run());
        write(x, "h1;");
        due("still that of h1;q", x.faultPosition(), 3);
        due("run() of h1;", x.run(), 1);
        due("that of h1;", x.faultPosition(), -1);
        thrown("run() of nothing", ARGUMENT, () -> x.run());
        due("that of nothing", x.faultPosition(), 0);
        write(x, "x1;");
        thrown("run() of x1;", REFUSED, () -> x.run());
        due("a refused text has no fault", x.faultPosition(), -1);
    }

    // ---- What is refused in texts

    private static HeatNetwork refusedText(String text, int reason) {
        HeatNetwork x = new HeatNetwork();
        refusedIn(x, text, reason);
        due("nothing came of " + text, x.count(4), 0);
        return x;
    }

    private static void refusedIn(HeatNetwork x, String text, int reason) {
        write(x, text);
        refused("run() of " + text, reason, x, () -> x.run());
        due("faultPosition() behind " + text, x.faultPosition(), -1);
        due("the buffer behind " + text, x.count(5), 0);
    }

    private static void taken(String text) {
        HeatNetwork x = new HeatNetwork();
        due("run() of " + text, runText(x, text), 1);
        due("one change", x.count(4), 1);
    }

    private static void ranges() {
        String[] right = {"t0=600;", "t0=999;", "t1=0;", "t1=200;", "t1=-0;", "t2=-300;", "t2=300;", "t3=0;", "t3=99;",
            "t4=1;", "t4=999;", "t5=0;", "t5=999;", "t6=0;", "t6=99;", "p0-1:1,1;", "p0-1:99,9;", "p9-8:1,9;",
            "s1:1,200,1;", "s9:99,600,999;", "h1;", "h24;"};
        for (String text : right) {
            taken(text);
        }
        String[] wrong = {"t0=599;", "t0=0;", "t0=-600;", "t1=-1;", "t1=201;", "t2=-301;", "t2=301;", "t3=-1;",
            "t3=100;", "t4=0;", "t4=-1;", "t5=-1;", "t6=-1;", "t6=100;", "t5=-999;", "p0-1:0,1;", "p0-1:100,1;",
            "p0-1:1,0;", "p0-1:1,10;", "p0-1:999,999;", "s1:0,200,1;", "s1:100,200,1;", "s1:1,199,1;", "s1:1,601,1;",
            "s1:1,200,0;", "h0;", "h25;", "h999;"};
        for (String text : wrong) {
            refusedText(text, 2);
        }
        String[] nowhere = {"t7=1;", "t8=1;", "t9=1;", "s0:1,200,1;", "x0;"};
        for (String text : nowhere) {
            refusedText(text, 1);
        }
    }

    private static void leadingZeros() {
        HeatNetwork x = new HeatNetwork();
        due("run()", runText(x, "p0-1:009,002;s1:09,300,009;t2=-000;t3=010;h001;h024;"), 6);
        due("the length", x.pipe(0, 2), 9);
        due("the roughness", x.pipe(0, 3), 2);
        due("the size", x.station(1, 0), 9);
        due("the greatest flow", x.station(1, 2), 9);
        due("the outdoor temperature", x.setting(2), 0);
        due("the loss", x.setting(3), 10);
        due("the hours", x.account(4), 25);
        due("run()", runText(x, "t2=-009;t5=007;"), 2);
        due("a number below 0", x.setting(2), -9);
        due("a number", x.setting(5), 7);
        refusedIn(x, "h000;", 2);
        refusedIn(x, "h025;", 2);
        refusedIn(x, "s2:000,300,1;", 2);
        refusedIn(x, "p2-3:010,010;", 2);
    }

    private static void firstReasons() {
        refusedText("s0:0,200,1;", 1);
        refusedText("s0:1,199,0;", 1);
        refusedText("t7=-999;", 1);
        refusedText("p5-5:0,1;", 2);
        refusedText("p5-5:1,10;", 2);
        HeatNetwork x = fullOfPipes();
        x.addStation(9, 99, 200, 9);
        x.setSetting(4, 1);
        refusedIn(x, "p0-1:0,1;", 2);
        refusedIn(x, "p0-5:1,10;", 2);
        refusedIn(x, "p1-0:1,1;", 3);
        refusedIn(x, "p5-5:1,1;", 3);
        refusedIn(x, "p0-5:1,1;", 4);
        refusedIn(x, "s9:0,200,9;", 2);
        refusedIn(x, "s9:9,200,9;", 6);
        refusedIn(x, "h0;", 2);
        refusedIn(x, "h25;", 2);
        refusedIn(x, "h1;", 7);
        x.removePipe(5);
        refusedIn(x, "p4-6:1,1;p5-6:1,1;p0-3:1,1;", 4);
        due("9 pipes still", x.count(0), 9);
        HeatNetwork y = chainOfTen();
        y.removePipe(8);
        refusedIn(y, "p0-7:1,1;p0-8:1,1;", 5);
        refusedIn(y, "p0-7:1,1;p0-8:0,1;", 2);
        refusedIn(y, "p0-7:1,1;p0-1:1,1;", 3);
        refusedIn(y, "p0-7:1,1;p0-9:1,1;p0-8:1,1;", 4);
        due("8 pipes still", y.count(0), 8);
    }

    private static void eachReason() {
        Sentence.says("Reasons", "1, there is no such node or setting, or the node is the plant and a station is meant",
                () -> {
            HeatNetwork x = new HeatNetwork();
            refused("a pipe to node 10", 1, x, () -> x.addPipe(0, 10, 1, 1));
            refused("a station at node 10", 1, x, () -> x.addStation(10, 1, 200, 1));
            refused("a station at the plant", 1, x, () -> x.addStation(0, 1, 200, 1));
            refused("removing one at node 10", 1, x, () -> x.removeStation(10));
            refused("removing one at the plant", 1, x, () -> x.removeStation(0));
            refusedIn(x, "t7=0;", 1);
            refusedIn(x, "s0:1,200,1;", 1);
            refusedIn(x, "x0;", 1);
            due("a pipe at the plant", x.addPipe(0, 9, 1, 1), 0);
        });
        Sentence.says("Reasons", "2, a number is out of range", () -> ranges());
        Sentence.says("Reasons", "3, the nodes are the same, or there is such a pipe already", () -> {
            refusedText("p0-0:1,1;", 3);
            refusedText("p9-9:1,1;", 3);
            refusedText("p0-1:1,1;p0-1:1,1;", 3);
            refusedText("p0-1:1,1;p1-0:2,2;", 3);
            taken("p0-1:1,1;");
        });
        Sentence.says("Reasons", "4, there are as many pipes as are kept", () -> {
            HeatNetwork x = chainOfTen();
            due("the tenth", runText(x, "p5-9:1,1;"), 1);
            refusedIn(x, "p0-5:1,1;", 4);
            x.removePipe(9);
            refusedIn(x, "p5-9:1,1;p0-5:1,1;", 4);
            due("nine still", x.count(0), 9);
        });
        Sentence.says("Reasons", "5, there would be a second loop in a part", () -> {
            HeatNetwork x = chainOfTen();
            x.removePipe(8);
            due("a loop of eight nodes of nine", runText(x, "p0-7:1,1;"), 1);
            refusedIn(x, "p0-8:1,1;", 5);
            due("a pipe to another part", runText(x, "p0-9:1,1;"), 1);
        });
        Sentence.says("Reasons", "6, there is no station, or one already", () -> {
            refusedText("x1;", 6);
            refusedText("x9;", 6);
            refusedText("s1:1,200,1;s1:1,200,1;", 6);
            refusedText("s1:1,200,1;x1;x1;", 6);
            HeatNetwork x = new HeatNetwork();
            due("one in place of another", runText(x, "s1:1,200,1;x1;s1:2,200,1;"), 3);
            due("the other one", x.station(1, 0), 2);
        });
        Sentence.says("Reasons", "7, the head that is needed is greater than the greatest head of the pump.", () -> {
            // a station that draws 6 of 19800 / 700 through a resistance of 5: a head of 180
            String network = "t3=0;p0-1:5,1;s1:99,200,6;";
            refusedText(network + "t4=179;h1;", 7);
            refusedText(network + "t4=1;h24;", 7);
            refusedText(network + "h1;t4=179;h1;", 7);
            HeatNetwork x = new HeatNetwork();
            due("just as great", runText(x, network + "t4=180;h1;"), 5);
            due("greater, but without hours", runText(x, "t4=179;"), 1);
            refusedIn(x, "h1;", 7);
            due("less is needed by now", runText(x, "t2=195;h1;"), 2);
        });
        Sentence.says("Reasons", "A definition is refused for the first of these reasons", () -> firstReasons());
        Sentence.says("Details", "In texts, settings 7 to 9 and hours out of range are no faults, but are refused for "
                + "the reasons 1 and 2", () -> {
            for (int setting = 7; setting < 10; setting++) {
                refusedText("t" + setting + "=0;", 1);
                refusedText("t" + setting + "=-999;", 1);
            }
            refusedText("h0;", 2);
            refusedText("h25;", 2);
            refusedText("h999;", 2);
            refusedText("h1;h0;", 2);
            taken("t6=0;");
            taken("h1;");
            taken("h24;");
        });
        Sentence.says("Details", "numbers may begin with 0.", () -> leadingZeros());
    }

    // ---- Promises 11 to 14

    private static void appending() {
        HeatNetwork x = new HeatNetwork();
        due("append(32)", x.append(32), 1);
        due("append(126)", x.append(126), 2);
        int[] bad = {31, 127, 0, -1, 128, 255, 256 + 'h', 65536 + 'h', FAR, FAR_BELOW, FAR_BELOW + 'h'};
        for (int code : bad) {
            thrown("append(" + code + ")", ARGUMENT, () -> x.append(code));
        }
        due("count(5)", x.count(5), 2);
        for (int length = 3; length <= 60; length++) {
            due("append(33)", x.append(33), length);
        }
        thrown("append(33) to 60", STATE, () -> x.append(33));
        thrown("append(32) to 60", STATE, () -> x.append(32));
        thrown("append(126) to 60", STATE, () -> x.append(126));
        for (int code : bad) {
            thrown("append(" + code + ") to 60", ARGUMENT, () -> x.append(code));
        }
        due("count(5) of 60", x.count(5), 60);
        thrown("run()", ARGUMENT, () -> x.run());
        due("the first character of the full buffer", x.faultPosition(), 0);
        due("count(5) behind run", x.count(5), 0);
        due("append(32) behind run", x.append(32), 1);
    }

    private static void fullBuffer() {
        HeatNetwork x = new HeatNetwork();
        write(x, times(20, "h1;"));
        thrown("append to a right text of 60", STATE, () -> x.append('h'));
        due("run() is not harmed by it", x.run(), 20);
        due("20 hours", x.account(4), 20);
        due("one change", x.count(4), 1);
        write(x, times(20, "t1="));
        thrown("a fault", ARGUMENT, () -> x.run());
        due("its position", x.faultPosition(), 3);
        due("run() of 60 again", runText(x, "p0-1:99,9;p1-2:99,9;p2-3:99,9;p3-4:99,9;s1:99,200,999;t4=1;"), 6);
        due("all six came about", x.count(0), 4);
    }

    private static void appends() {
        Sentence.says("Promise 11", "the code of the character, 32 to 126", () -> appending());
        Sentence.says("Promise 11", "Throws IllegalArgumentException if the code is out of range", () -> appending());
        Sentence.says("Promise 11", "Throws IllegalStateException if the buffer contains 60 characters",
                () -> fullBuffer());
        Sentence.says("Promise 11", "Returns the number of characters in the buffer.", () -> {
            HeatNetwork x = new HeatNetwork();
            due("the first", x.append('h'), 1);
            due("the second", x.append('1'), 2);
            due("the third", x.append(';'), 3);
            x.run();
            due("the first behind run", x.append('h'), 1);
        });
    }

    private static void allOrNone() {
        HeatNetwork x = oneStation();
        x.hours(1);
        String before = "t0=600;p1-2:1,1;s2:1,200,1;x1;h2;";
        refusedIn(x, before + "x1;", 6);
        due("the supply temperature", x.setting(0), 900);
        due("the pipes", x.count(0), 1);
        due("the stations", x.count(1), 1);
        due("the station", x.station(1, 0), 9);
        due("its meter", x.meter(1, 0), 1812);
        due("its bills", x.meter(1, 2), 90);
        due("the hours", x.account(4), 1);
        due("the heat that was made", x.account(5), 2548);
        due("the changes", x.count(4), 3);
        write(x, before + "x1");
        thrown("a fault behind them", ARGUMENT, () -> x.run());
        due("the supply temperature", x.setting(0), 900);
        due("the hours", x.account(4), 1);
        due("the changes", x.count(4), 3);
        due("without the last one", runText(x, before), 5);
        due("the supply temperature", x.setting(0), 600);
        due("the hours", x.account(4), 3);
        due("the changes", x.count(4), 4);
        due("undone as one", x.undo(), 3);
        due("the hours", x.account(4), 1);
        due("the station is there", x.meter(1, 2), 90);
    }

    private static void behindThoseAhead() {
        due("a station and its removal", runText(new HeatNetwork(), "s1:1,200,1;x1;"), 2);
        refusedText("x1;s1:1,200,1;", 6);
        refusedText("p0-1:1,1;p1-2:1,1;p2-0:1,1;p2-3:1,1;p3-0:1,1;", 5);
        refusedText("x2;s0:1,200,1;", 6);
        refusedText("s0:1,200,1;x2;", 1);
        refusedText("h0;x2;", 2);
        HeatNetwork x = new HeatNetwork();
        due("a range is that of the setting, not of another", runText(x, "t5=201;t1=200;"), 2);
        HeatNetwork y = new HeatNetwork();
        write(y, "x1;q");
        thrown("a fault anywhere comes first", ARGUMENT, () -> y.run());
        due("at 3", y.faultPosition(), 3);
        thrown("and keeps no reason", ELEMENT, () -> y.refusal());
        // each hour is one of the network as it is by then
        HeatNetwork z = new HeatNetwork();
        due("hours in between", runText(z, "t3=0;h1;p0-1:1,1;h1;s1:6,300,99;h1;t2=100;h1;x1;h1;"), 10);
        due("0, 0, 1200, 600 and 0 were made", z.account(5), 1800);
        due("60 and 30 were paid", z.account(7), 90);
        due("5 hours", z.account(4), 5);
    }

    private static void runs() {
        Sentence.says("Promise 12", "carries out its definitions in their order, all or none of them.",
                () -> allOrNone());
        Sentence.says("Promise 12", "The buffer is empty then, also if an exception is thrown.", () -> {
            HeatNetwork x = new HeatNetwork();
            runText(x, "h1;");
            due("behind a right text", x.count(5), 0);
            write(x, "h1");
            thrown("a fault", ARGUMENT, () -> x.run());
            due("behind a fault", x.count(5), 0);
            write(x, "x1;");
            thrown("a refusal", REFUSED, () -> x.run());
            due("behind a refusal", x.count(5), 0);
            due("nothing of them comes in again", runText(x, "h2;"), 1);
            due("3 hours", x.account(4), 3);
        });
        Sentence.says("Promise 12", "Returns the number of definitions.", () -> {
            due("one", runText(new HeatNetwork(), "h1;"), 1);
            due("two", runText(new HeatNetwork(), "h1;t0=600;"), 2);
            due("as many as there is room for", runText(new HeatNetwork(), times(20, "h1;")), 20);
        });
        Sentence.says("Promise 12", "Throws IllegalArgumentException if the text has a fault", () -> {
            HeatNetwork x = new HeatNetwork();
            thrown("nothing is no text", ARGUMENT, () -> x.run());
            thrown("nor is it the second time", ARGUMENT, () -> x.run());
            write(x, "h1");
            thrown("an end that is too early", ARGUMENT, () -> x.run());
            thrown("no reason is kept", ELEMENT, () -> x.refusal());
            due("no change", x.count(4), 0);
        });
        Sentence.says("Promise 12", "Throws UnsupportedOperationException if a definition is refused, each behind "
                + "those ahead of it; the reason is kept for refusal", () -> behindThoseAhead());
        Sentence.says("Promise 13", "Returns the fault position, or -1 if that text had no fault or run has not been "
                + "called.", () -> faultPositions());
    }

    private static void reasonsKept() {
        HeatNetwork x = new HeatNetwork();
        thrown("nothing was refused", ELEMENT, () -> x.refusal());
        thrown("a failing call is not refused", ARGUMENT, () -> x.setSetting(0, 0));
        thrown("nor is this", ARGUMENT, () -> x.hours(0));
        thrown("nor a fault", ARGUMENT, () -> x.run());
        thrown("nor undo", STATE, () -> x.undo());
        thrown("nothing was refused yet", ELEMENT, () -> x.refusal());
        refused("the least reason", 1, x, () -> x.removeStation(0));
        refusedIn(x, "h0;", 2);
        refused("the reason 3", 3, x, () -> x.addPipe(1, 1, 1, 1));
        x.addPipe(0, 1, 9, 9);
        x.addStation(1, 99, 200, 99);
        due("a success keeps it", x.refusal(), 3);
        x.setSetting(4, 1);
        refused("the greatest reason", 7, x, () -> x.hours(1));
        due("asking keeps it", x.refusal(), 7);
        thrown("a failing call keeps it", ARGUMENT, () -> x.setReturn(1, 199));
        thrown("another one too", ELEMENT, () -> x.setReturn(2, 199));
        due("it is kept", x.refusal(), 7);
        refused("the same as at first", 1, x, () -> x.addStation(0, 1, 200, 1));
    }

    private static void refusals() {
        Sentence.says("Promise 14", "Returns the reason for which something was refused last.", () -> reasonsKept());
        Sentence.says("Promise 14", "Throws NoSuchElementException if nothing was refused", () -> {
            HeatNetwork x = new HeatNetwork();
            thrown("refusal() of nothing", ELEMENT, () -> x.refusal());
            runText(x, "p0-1:9,2;s1:9,300,9;h1;");
            thrown("refusal() behind what succeeded", ELEMENT, () -> x.refusal());
            refused("x2;", 6, x, () -> x.removeStation(2));
        });
    }

    static void all() {
        forms();
        eachReason();
        appends();
        runs();
        refusals();
    }

    public static void main(String[] arguments) {
        all();
        Check.end("BoundaryTextTest");
    }
}
