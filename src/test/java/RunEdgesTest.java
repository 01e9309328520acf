/** Tools, runs of ways, and where two of them meet: a test for each sentence that names an edge. */
public final class RunEdgesTest extends Edges {
    private static final int[] FIRST = {5, 3, 10, 50, 4};

    private static TunnelBook told(int[] tools, String text) {
        TunnelBook x = new TunnelBook();
        x.tools(tools[0], tools[1], tools[2], tools[3], tools[4]);
        due("way " + text, Texts.way(x, 0, text) >= 0 ? 1 : 0, 1);
        return x;
    }

    /** The answers 0 .. 8 of a run, as far as they are told. */
    private static void ran(int[] tools, String text, int heading, int... want) {
        TunnelBook x = told(tools, text);
        for (int what = 0; what < want.length; what++) {
            due("run(0, " + heading + ", " + what + ") of " + text, x.run(0, heading, what), want[what]);
        }
    }

    private static void ranTo(int[] tools, String text, int what, int want) {
        TunnelBook x = told(tools, text);
        due("run(0, 0, " + what + ") of " + text, x.run(0, 0, what), want);
    }

    private static void notDone(int[] tools, String text, int heading) {
        TunnelBook x = told(tools, text);
        for (int what = 0; what <= 8; what++) {
            due("run(0, " + heading + ", " + what + ") of " + text, x.run(0, heading, what), FREE);
        }
    }

    private static void firstTools() {
        says("TOOLS: at first 5, 3, 10, 50, 4");
        TunnelBook x = new TunnelBook();
        Texts.way(x, 0, "line 1000;turn 1;");
        due("LINE", x.run(0, 0, 3), 500);
        due("LEVEL", x.run(0, 0, 5), 300);
        due("TURN", x.run(0, 0, 6), 10);
        Texts.way(x, 1, "line 1000;turn 1;shaft;");
        due("SHAFT", x.run(1, 0, 3), 50);
        Texts.way(x, 2, "turn 1;poles;");
        due("POLES", x.run(2, 0, 6), 4);
    }

    private static void toolEnds() {
        says("LINE, LEVEL, TURN (each 0 .. 1000), SHAFT (0 .. 10000), POLES (0 .. 1000); tools: False, changing nothing");
        TunnelBook x = new TunnelBook();
        Texts.way(x, 0, "line 200;turn 1;");
        Texts.way(x, 1, "line 200;turn 1;shaft;");
        Texts.way(x, 2, "turn 1;poles;");
        yes("the greatest", x.tools(1000, 1000, 1000, 10000, 1000));
        int[][] others = {{1001, 0, 0, 0, 0}, {-1, 0, 0, 0, 0}, {MIN, 0, 0, 0, 0}, {MAX, 0, 0, 0, 0},
            {0, 1001, 0, 0, 0}, {0, -1, 0, 0, 0}, {0, MIN, 0, 0, 0}, {0, MAX, 0, 0, 0},
            {0, 0, 1001, 0, 0}, {0, 0, -1, 0, 0}, {0, 0, MIN, 0, 0}, {0, 0, MAX, 0, 0},
            {0, 0, 0, 10001, 0}, {0, 0, 0, -1, 0}, {0, 0, 0, MIN, 0}, {0, 0, 0, MAX, 0},
            {0, 0, 0, 0, 1001}, {0, 0, 0, 0, -1}, {0, 0, 0, 0, MIN}, {0, 0, 0, 0, MAX}};
        for (int[] o : others) {
            no("tools " + java.util.Arrays.toString(o), x.tools(o[0], o[1], o[2], o[3], o[4]));
            due("LINE as ahead", x.run(0, 0, 3), 20000);
            due("LEVEL as ahead", x.run(0, 0, 5), 20000);
            due("TURN as ahead", x.run(0, 0, 6), 1000);
            due("SHAFT as ahead", x.run(1, 0, 3), 10000);
            due("POLES as ahead", x.run(2, 0, 6), 1000);
        }
        yes("the least", x.tools(0, 0, 0, 0, 0));
        due("LINE", x.run(0, 0, 3), 0);
        due("LEVEL", x.run(0, 0, 5), 0);
        due("TURN", x.run(0, 0, 6), 0);
    }

    private static void otherTools() {
        says("a run is made with the TOOLS that are told when it is asked for");
        TunnelBook x = new TunnelBook();
        Texts.way(x, 0, "line 10;");
        due("EX", x.run(0, 0, 3), 5);
        x.tools(7, 3, 10, 50, 4);
        due("EX by other tools", x.run(0, 0, 3), 7);
        x.tools(1000, 3, 10, 50, 4);
        Texts.way(x, 1, "repeat 99{repeat 12{line 9999;turn 8;}}");
        due("not done", x.run(1, 0, 3), FREE);
        x.tools(0, 0, 0, 0, 0);
        due("done by better tools", x.run(1, 0, 3), 0);
    }

    private static void runArguments() {
        says("run of a WAY 0 .. 5 from a heading 0 .. 15: 0 .. 8; FREE for others, a WAY that wasn't told");
        TunnelBook x = new TunnelBook();
        Texts.way(x, 5, "line 1;turn 2;rise 3;");
        int[] last = {924, -383, 3, 1, 1, 1, 10, 1, 3};
        for (int what = 0; what <= 8; what++) {
            due("run(5, 15, " + what + ")", x.run(5, 15, what), last[what]);
            due("run(0, 0, " + what + "), not told", x.run(0, 0, what), FREE);
            due("run(4, 15, " + what + "), not told", x.run(4, 15, what), FREE);
        }
        for (int o : new int[] {-1, 9, 16, MIN, MAX}) {
            due("run(5, 0, " + o + ")", x.run(5, 0, o), FREE);
        }
        for (int o : new int[] {-1, 16, 17, MIN, MAX}) {
            due("run(5, " + o + ", 0)", x.run(5, o, 0), FREE);
        }
        for (int o : new int[] {-1, 6, 7, MIN, MAX}) {
            due("run(" + o + ", 0, 0)", x.run(o, 0, 0), FREE);
        }
        due("run(5, 0, 0)", x.run(5, 0, 0), 1000);
        for (int w = 0; w <= 4; w++) {
            Texts.way(x, w, "rise 1;");
        }
        for (int w = 0; w <= 5; w++) {
            due("run(" + w + ", 16, 2)", x.run(w, 16, 2), FREE);
            due("run(" + w + ", -1, 2)", x.run(w, -1, 2), FREE);
        }
    }

    private static void headings() {
        says("(DX, DY) of headings 0 .. 4; a quarter more: (-DY, DX)");
        int[][] ways = {{1000, 0}, {924, 383}, {707, 707}, {383, 924}, {0, 1000}, {-383, 924}, {-707, 707},
            {-924, 383}, {-1000, 0}, {-924, -383}, {-707, -707}, {-383, -924}, {0, -1000}, {383, -924}, {707, -707},
            {924, -383}};
        TunnelBook x = new TunnelBook();
        Texts.way(x, 0, "line 3;");
        for (int h = 0; h < 16; h++) {
            due("x from heading " + h, x.run(0, h, 0), 3 * ways[h][0]);
            due("y from heading " + h, x.run(0, h, 1), 3 * ways[h][1]);
            due("EX from heading " + h, x.run(0, h, 3), ways[h][0] == 0 ? 0 : Math.abs(ways[h][0]) > 500 ? 2 : 1);
            due("EY from heading " + h, x.run(0, h, 4), ways[h][1] == 0 ? 0 : Math.abs(ways[h][1]) > 500 ? 2 : 1);
            due("heading from " + h, x.run(0, h, 7), h);
        }
    }

    private static void roundHeadings() {
        says("turn n: the heading n more (a wrap-around at 16)");
        for (int n = 1; n <= 15; n++) {
            TunnelBook x = told(FIRST, "turn " + n + ";");
            due("turn " + n + " to 15", x.run(0, 15 - n, 7), 15);
            due("turn " + n + " to 0", x.run(0, 16 - n, 7), 0);
            due("turn " + n + " from 15", x.run(0, 15, 7), n - 1);
            due("ASKEW of turn " + n, x.run(0, 0, 6), 10);
        }
        ran(FIRST, "turn 15;turn 15;turn 15;", 15, 0, 0, 0, 0, 0, 0, 30, 12, 3);
        ran(FIRST, "repeat 99{turn 15;}", 0, 0, 0, 0, 0, 0, 0, 990, 13, 99);
        ran(FIRST, "turn 1;line 1;", 15, 1000, 0);
    }

    private static void roundedUp() {
        says("with a = n LINE / 10 and b = n ASKEW / 10, each rounded up; EX, EY, EZ each rounded up");
        int[] line = {0, 1, 1, 2, 2, 3, 3, 4, 4, 5, 5, 6};
        int[] level = {0, 1, 1, 1, 2, 2, 2, 3, 3, 3, 3, 4};
        for (int n = 1; n <= 11; n++) {
            ran(FIRST, "line " + n + ";", 0, 1000 * n, 0, 0, line[n], 0, level[n], 0, 0, 1);
            ran(FIRST, "line " + n + ";", 12, 0, -1000 * n, 0, 0, line[n], level[n], 0, 12, 1);
        }
        // a 1, 2; of 924 and 383 thousandths.
        ran(FIRST, "line 1;", 1, 924, 383, 0, 1, 1);
        ran(FIRST, "line 4;", 1, 3696, 1532, 0, 2, 1);
        ran(FIRST, "line 6;", 1, 5544, 2298, 0, 3, 2);
        // 843 of 707, and 47 of 383, are a thousandth above whole mm.
        ran(new int[] {10, 0, 0, 0, 0}, "line 843;", 2, 596001, 596001, 0, 597, 597);
        ran(new int[] {10, 0, 0, 0, 0}, "line 47;", 3, 18001, 43428, 0, 19, 44);
        ran(new int[] {10, 0, 0, 0, 0}, "line 47;", 1, 43428, 18001, 0, 44, 19);
        // No line, b alone: ASKEW 4, then 3 * 4 / 10.
        int[] askew = {0, 0, 4, 0, 0};
        ran(askew, "turn 4;line 1;", 0, 0, 1000, 0, 1, 0, 0, 4, 4, 2);
        ran(askew, "turn 4;line 2;", 0, 0, 2000, 0, 1, 0, 0, 4, 4, 2);
        ran(askew, "turn 4;line 3;", 0, 0, 3000, 0, 2, 0, 0, 4, 4, 2);
        ran(askew, "turn 4;line 5;", 0, 0, 5000, 0, 2, 0, 0, 4, 4, 2);
        ran(askew, "turn 4;line 6;", 0, 0, 6000, 0, 3, 0, 0, 4, 4, 2);
        // Both together are rounded once: a 1, b 1 of 707 make 2 of 1.414.
        ran(new int[] {1, 0, 1, 0, 0}, "turn 2;line 1;", 0, 707, 707, 0, 2, 2);
        ran(new int[] {1, 0, 1, 0, 0}, "turn 1;line 1;", 0, 924, 383, 0, 2, 2);
        ran(new int[] {5, 0, 5, 0, 0}, "turn 1;line 20;", 0, 18480, 7660, 0, 14, 14);
        ran(new int[] {0, 0, 0, 0, 0}, "turn 2;line 9999;", 0, 7069293, 7069293, 0, 0, 0, 0, 0, 2, 2);
    }

    private static void newRun() {
        says("run from (0, 0, 0), heading 0 .. 15 (told), errors 0, ASKEW 0");
        for (int h = 0; h < 16; h++) {
            ran(FIRST, "", h, 0, 0, 0, 0, 0, 0, 0, h, 0);
        }
        TunnelBook x = told(FIRST, "line 10;turn 1;rise 5;");
        for (int i = 0; i < 2; i++) {
            for (int h = 0; h < 16; h += 4) {
                due("z from " + h, x.run(0, h, 2), 5);
                due("ASKEW from " + h, x.run(0, h, 6), 10);
                due("EZ from " + h, x.run(0, h, 5), 3);
                due("STEPS from " + h, x.run(0, h, 8), 3);
            }
        }
    }

    private static void rises() {
        says("rise, fall n: z n more, less");
        ran(FIRST, "rise 0;", 0, 0, 0, 0, 0, 0, 0, 0, 0, 1);
        ran(FIRST, "fall 0;", 0, 0, 0, 0, 0, 0, 0, 0, 0, 1);
        ran(FIRST, "rise 100000;", 3, 0, 0, 100000, 0, 0, 0, 0, 3, 1);
        ran(FIRST, "fall 100000;", 3, 0, 0, -100000, 0, 0, 0, 0, 3, 1);
    }

    private static void shafts() {
        says("shaft: EX and EY are SHAFT at most, ASKEW TURN at most");
        int[] tools = {10, 10, 5, 50, 3};
        ran(tools, "line 49;shaft;", 0, 49000, 0, 0, 49, 0, 49);
        ran(tools, "line 50;shaft;", 0, 50000, 0, 0, 50, 0, 50);
        ran(tools, "line 51;shaft;", 0, 51000, 0, 0, 50, 0, 51);
        ran(tools, "line 49;shaft;", 4, 0, 49000, 0, 0, 49, 49);
        ran(tools, "line 50;shaft;", 4, 0, 50000, 0, 0, 50, 50);
        ran(tools, "line 51;shaft;", 4, 0, 51000, 0, 0, 50, 51);
        ranTo(tools, "shaft;", 6, 0);
        ranTo(tools, "turn 1;poles;shaft;", 6, 3);
        ranTo(tools, "turn 1;shaft;", 6, 5);
        ranTo(tools, "turn 1;turn 1;shaft;", 6, 5);
        ran(new int[] {1000, 0, 7, 0, 0}, "line 9;turn 1;turn 1;shaft;", 2, 6363, 6363, 0, 0, 0, 0, 7, 4, 4);
    }

    private static void polesCap() {
        says("poles: ASKEW is POLES at most");
        int[][] turns = {{2, 2}, {3, 3}, {4, 3}, {0, 0}, {1000, 3}};
        for (int[] t : turns) {
            ranTo(new int[] {0, 0, t[0], 0, 3}, "turn 1;poles;", 6, t[1]);
        }
        ranTo(new int[] {0, 0, 9, 0, 0}, "turn 1;poles;", 6, 0);
        ran(FIRST, "line 99;poles;", 0, 99000, 0, 0, 50, 0, 30, 0, 0, 2);
    }

    private static void blocks() {
        says("do, repeat: what they hold");
        ranTo(FIRST, "repeat 1{rise 1;}", 2, 1);
        ranTo(FIRST, "repeat 2{rise 1;}", 2, 2);
        ranTo(FIRST, "repeat 99{rise 1;}", 2, 99);
        ranTo(FIRST, "repeat 3{rise 1;repeat 1{rise 10;}repeat 2{rise 100;}}", 2, 633);
        ranTo(FIRST, "def a{rise 1;}", 2, 0);
        ranTo(FIRST, "def a{rise 1;}do a;do a;rise 10;", 2, 12);
        ranTo(FIRST, "rise 5;def a{rise 1;}rise 10;", 2, 15);
        ranTo(FIRST, "def a{rise 1;}def b{do a;do a;}def c{repeat 3{do b;}}do c;", 2, 6);
        ranTo(FIRST, "def a{repeat 2{rise 1;}repeat 3{rise 10;}}repeat 2{do a;}", 2, 64);
        String deep = "repeat 2{".repeat(8) + "rise 1;" + "}".repeat(8);
        ranTo(FIRST, deep, 2, 256);
        String letters = "def a{rise 1;}def b{repeat 2{do a;}}def c{repeat 2{do b;}}def d{repeat 2{do c;}}"
            + "def e{repeat 2{do d;}}def f{repeat 2{do e;}}def g{repeat 2{do f;}}def h{repeat 2{do g;}}";
        ranTo(FIRST, letters + "repeat 2{".repeat(5) + "do h;" + "}".repeat(5), 2, 4096);
    }

    private static void emptyBlocks() {
        says("(one that holds no such STEP does nothing, however often)");
        ran(FIRST, "repeat 99{}", 6, 0, 0, 0, 0, 0, 0, 0, 6, 0);
        ran(FIRST, "repeat 99{".repeat(8) + "}".repeat(8), 6, 0, 0, 0, 0, 0, 0, 0, 6, 0);
        ran(FIRST, "def a{}repeat 99{repeat 99{repeat 99{do a;}}}rise 1;", 0, 0, 0, 1, 0, 0, 0, 0, 0, 1);
        ran(FIRST, "def a{repeat 99{}}def b{repeat 99{do a;do a;}}def c{repeat 99{do b;do b;}}"
            + "repeat 99{repeat 99{do c;}rise 1;}", 0, 0, 0, 99, 0, 0, 0, 0, 0, 99);
        ranTo(FIRST, "repeat 50{rise 1;repeat 99{repeat 99{}}}", 8, 50);
        ranTo(FIRST, "def a{}do a;do a;rise 1;", 2, 1);
        ranTo(FIRST, "def a{}rise 1;do a;rise 2;do a;do a;", 2, 3);
        ranTo(FIRST, "def a{}repeat 2{do a;rise 1;do a;}", 2, 2);
        ranTo(FIRST, "def a{rise 1;}def b{}def c{do a;do b;do a;}do b;do c;do b;", 2, 2);
    }

    private static void mostSteps() {
        says("A run of more than 5000 STEPS isn't DONE");
        int[] none = {0, 0, 0, 0, 0};
        for (String step : new String[] {"line 1;turn 8;", "rise 1;fall 1;", "shaft;poles;"}) {
            String most = "repeat 50{repeat 50{" + step + "}}";
            ranTo(none, most, 8, 5000);
            notDone(none, most + "poles;", 0);
            notDone(none, "poles;" + most, 0);
        }
        ranTo(none, "repeat 50{repeat 99{poles;}}repeat 49{poles;}rise 7;", 8, 5000);
        ranTo(none, "repeat 50{repeat 99{poles;}}repeat 49{poles;}rise 7;", 2, 7);
        ranTo(none, "repeat 51{repeat 98{poles;}}poles;", 8, 4999);
        ranTo(none, "def a{repeat 50{poles;}}repeat 99{do a;}do a;", 8, 5000);
        notDone(none, "def a{repeat 50{poles;}}repeat 99{do a;}do a;poles;", 15);
        notDone(none, "repeat 99{".repeat(8) + "poles;" + "}".repeat(8), 0);
        notDone(none, "def a{repeat 99{poles;}}def b{repeat 99{do a;}}def c{repeat 99{do b;}}def d{repeat 99{do c;}}"
            + "def e{repeat 99{do d;}}def f{repeat 99{do e;}}def g{repeat 99{do f;}}repeat 99{do g;}", 0);
        ranTo(none, "def a{repeat 99{repeat 99{poles;}}}", 8, 0);
    }

    /** Numbers of steps that a sum would lose in 32 or 64 bits, and sums of what a def holds of another. */
    private static void stepsWithinSteps() {
        says("A run of more than 5000 STEPS isn't DONE, by whatever do and repeat they come");
        int[] none = {0, 0, 0, 0, 0};
        for (int times : new int[] {2, 4, 8, 16, 32, 64, 99}) {
            String open = ("repeat " + times + "{").repeat(8);
            if (times > 2) {
                notDone(none, open + "poles;" + "}".repeat(8), 0);
                notDone(none, "rise 1;" + open + "poles;" + "}".repeat(8) + "rise 1;", 3);
            }
            String held = "def a{" + ("repeat " + times + "{").repeat(7) + "poles;" + "}".repeat(8);
            notDone(none, held + open + "do a;" + "}".repeat(8), 0);
            notDone(none, held + "def b{" + open.substring(open.length() / 8) + "do a;" + "}".repeat(8) + "do b;", 0);
            ranTo(none, held + "rise 1;", 8, 1);
        }
        for (int n = 40; n <= 60; n += 10) {
            String halves = "def a{repeat " + n + "{poles;}}def b{repeat 50{do a;do a;}}";
            if (n <= 50) {
                ranTo(none, halves + "do b;", 8, 100 * n);
                ranTo(none, halves + "def c{do b;}def d{do c;}def e{do d;}do e;", 8, 100 * n);
            } else {
                notDone(none, halves + "do b;", 0);
                notDone(none, halves + "def c{do b;}def d{do c;}def e{do d;}do e;", 0);
            }
        }
        notDone(none, "def a{repeat 50{poles;}}def b{repeat 50{do a;do a;}poles;}do b;", 0);
        notDone(none, "def a{repeat 50{poles;}}def b{repeat 50{do a;do a;}}do b;poles;", 0);
        notDone(none, "def a{repeat 50{poles;}poles;}def b{repeat 50{do a;do a;}}do b;", 0);
        ranTo(none, "def a{repeat 50{poles;}poles;}def b{repeat 49{do a;do a;}}do b;poles;poles;", 8, 5000);
    }

    /** The most that 400 bytes can hold, and the most that stands between two STEPS. */
    private static void fullTexts() {
        says("texts of up to 400 bytes, run to their last STEP");
        int[] none = {0, 0, 0, 0, 0};
        ran(none, "rise1;".repeat(66), 0, 0, 0, 66, 0, 0, 0, 0, 0, 66);
        ran(none, "rise1;".repeat(65) + "fall 9;", 0, 0, 0, 56, 0, 0, 0, 0, 0, 66);
        String one = "def a{rise1;}";
        ran(none, one + "do a;".repeat(77), 0, 0, 0, 77, 0, 0, 0, 0, 0, 77);
        ran(none, one + "repeat2{do a;}".repeat(27), 0, 0, 0, 54, 0, 0, 0, 0, 0, 54);
        String eight = "repeat2{".repeat(8) + "do a;" + "}".repeat(8);
        ran(none, one + eight.repeat(5), 0, 0, 0, 1280, 0, 0, 0, 0, 0, 1280);
        ran(none, one + "def b{" + "do a;".repeat(75) + "}", 0, 0, 0, 0, 0, 0, 0, 0, 0, 0);
        ran(none, one + "def b{" + "do a;".repeat(74) + "}do b;", 0, 0, 0, 74, 0, 0, 0, 0, 0, 74);
        StringBuilder chain = new StringBuilder("def a{rise 1;}");
        for (char letter = 'b'; letter <= 'h'; letter++) {
            chain.append("def ").append(letter).append("{do ").append((char) (letter - 1)).append(";}");
        }
        String calls = chain + "repeat 50{repeat 50{do h;do h;}}";
        ran(none, calls, 0, 0, 0, 5000, 0, 0, 0, 0, 0, 5000);
        notDone(none, calls + "do h;", 0);
        ran(none, chain + "repeat 2{".repeat(8) + "do h;do h;do h;do h;do h;" + "}".repeat(8), 5, 0, 0, 1280, 0, 0, 0, 0,
            5, 1280);
    }

    private static void askewFar() {
        says("b = n ASKEW / 10: an error that comes beyond 100000000 by ASKEW");
        int[] turning = {0, 0, 1000, 10000, 1000};
        // From 150 turns on a line of 9999 m is off by more, whatever the heading; 215 and 430 turns are 2 ^ 31, 2 ^ 32.
        int[][] turns = {{2, 75}, {3, 71}, {2, 99}, {3, 72}, {4, 80}, {5, 86}, {8, 99}, {10, 86}, {13, 99}, {43, 99},
            {50, 99}};
        for (int[] t : turns) {
            String turned = "repeat " + t[0] + "{repeat " + t[1] + "{turn 1;}}";
            for (int h = 0; h < 16; h += 3) {
                notDone(turning, turned + "line 9999;", h);
                notDone(turning, turned + "line 9999;shaft;", h);
            }
            ranTo(turning, turned, 6, 1000 * t[0] * t[1]);
            ranTo(turning, turned + "poles;line 9999;", 6, 1000);
        }
        ran(turning, "repeat 50{turn 8;turn 8;}line 9999;", 0, 9999000, 0, 0, 0, 99990000, 0, 100000);
        ran(turning, "repeat 50{turn 8;turn 8;}line 9999;line 1;", 0, 10000000, 0, 0, 0, 100000000, 0, 100000);
        notDone(turning, "repeat 50{turn 8;turn 8;}line 9999;line 2;", 0);
    }

    private static void roundedOnce() {
        says("EX is (a |DX| + b |DY|) / 1000 more, EY (a |DY| + b |DX|) / 1000, each rounded up: once, behind the sum");
        ran(new int[] {20, 0, 20, 0, 0}, "turn 2;line 1;", 0, 707, 707, 0, 3, 3, 0, 20, 2, 2);
        ran(new int[] {20, 0, 20, 0, 0}, "turn 2;line 1;", 4, -707, 707, 0, 3, 3, 0, 20, 6, 2);
        // 3 * 924 + 6 * 383 = 5070, 3 * 383 + 6 * 924 = 6693; rounded part by part 3 + 3, 2 + 6.
        ran(new int[] {30, 0, 60, 0, 0}, "turn 1;line 1;", 0, 924, 383, 0, 6, 7, 0, 60, 1, 2);
        // 1 * 924 + 28 * 383 = 11648, 1 * 383 + 28 * 924 = 26255.
        ran(new int[] {10, 0, 280, 0, 0}, "turn 1;line 1;", 0, 924, 383, 0, 12, 27, 0, 280, 1, 2);
        // Line by line: 707 + 707 is 2 more each time, not 15 for ten.
        ran(new int[] {10, 0, 10, 0, 0}, "turn 2;repeat 10{line 1;}", 0, 7070, 7070, 0, 20, 20, 0, 10, 2, 11);
        ran(new int[] {10, 0, 10, 0, 0}, "turn 2;line 10;", 0, 7070, 7070, 0, 15, 15, 0, 10, 2, 2);
    }

    private static TunnelBook sixLines(String text) {
        TunnelBook x = new TunnelBook();
        for (int w = 0; w < 6; w++) {
            due("way " + w, Texts.way(x, w, text), 1);
        }
        return x;
    }

    /** EX of line n with tools of 10 mm for 10 m, by heading: what the heading's |DX| leaves of n * 10 mm, rounded up. */
    private static int errorOf(int n, int heading) {
        int[] along = {1000, 924, 707, 383, 0, 383, 707, 924};
        return (10 * n * along[heading % 8] / 10 + 999) / 1000;
    }

    private static void everyStart() {
        says("each WAY from each heading is run by what was told last, TOOLS and text");
        TunnelBook x = sixLines("line 700;");
        for (int[] line : new int[][] {{0, 0}, {10, 700}, {0, 0}}) {
            yes("tools", x.tools(line[0], 0, 0, 0, 0));
            for (int start = 0; start < 96; start++) {
                int w = start / 16;
                int h = start % 16;
                due("EX of " + w + " from " + h + " by LINE " + line[0], x.run(w, h, 3), errorOf(line[1], h));
            }
        }
        for (int changed = 0; changed < 6; changed++) {
            TunnelBook y = sixLines("line 700;");
            yes("tools", y.tools(10, 0, 0, 0, 0));
            for (int start = 0; start < 96; start++) {
                due("EX ahead of it", y.run(start / 16, start % 16, 3), errorOf(700, start % 16));
            }
            due("another text", Texts.way(y, changed, "line 300;"), 1);
            for (int start = 0; start < 96; start++) {
                int n = start / 16 == changed ? 300 : 700;
                due("EX behind it", y.run(start / 16, start % 16, 3), errorOf(n, start % 16));
            }
        }
    }

    private static void runByItself() {
        says("a run that isn't DONE leaves nothing to the next");
        TunnelBook x = told(new int[] {0, 0, 0, 0, 0}, "repeat 2{".repeat(7) + "repeat 20{line 9999;}" + "}".repeat(7));
        Texts.way(x, 1, "def a{repeat 2{rise 1;}}repeat 3{repeat 2{do a;}}");
        for (int h = 0; h < 16; h++) {
            due("not done from " + h, x.run(0, h, 2), FREE);
        }
        for (int h = 0; h < 16; h++) {
            due("z from " + h, x.run(1, h, 2), 12);
            due("STEPS from " + h, x.run(1, h, 8), 12);
        }
    }

    private static void farthestPlace() {
        says("nor one in which a place comes beyond 100000000 (places also below the same less)");
        int[] none = {0, 0, 0, 0, 0};
        String far = "repeat 10{line 9999;}line 10;";
        int[][] ends = {{0, 0, 1}, {4, 1, 1}, {8, 0, -1}, {12, 1, -1}};
        for (int[] e : ends) {
            TunnelBook x = told(none, far);
            due("at the edge from heading " + e[0], x.run(0, e[0], e[1]), e[2] * 100000000);
            notDone(none, far + "line 1;", e[0]);
            notDone(none, far + "line 1;turn 8;line 1;", e[0]);
        }
        String high = "repeat 10{repeat 99{rise 100000;}repeat 1{rise 100000;}}";
        ranTo(none, high, 2, 100000000);
        ranTo(none, high + "rise 0;fall 7;", 2, 99999993);
        notDone(none, high + "rise 1;", 0);
        notDone(none, high + "rise 1;fall 1;", 0);
        String low = high.replace("rise", "fall");
        ranTo(none, low, 2, -100000000);
        notDone(none, low + "fall 1;", 0);
        notDone(none, low + "fall 1;rise 1;", 0);
    }

    private static void greatestErrors() {
        says("nor one in which an error comes beyond 100000000");
        // 100 m of error for each m of a line; ASKEW itself can't come so far in 5000 STEPS.
        int[] line = {1000, 0, 0, 0, 0};
        String far = "repeat 50{line 9999;turn 8;line 9999;turn 8;}line 100;";
        TunnelBook x = told(line, far);
        due("EX at the edge", x.run(0, 0, 3), 100000000);
        due("EY at the edge", x.run(0, 4, 4), 100000000);
        notDone(line, far + "line 1;", 0);
        notDone(line, far + "line 1;", 4);
        notDone(line, far + "line 1;shaft;", 8);
        int[] level = {0, 1000, 0, 0, 0};
        TunnelBook y = told(level, far);
        due("EZ at the edge", y.run(0, 7, 5), 100000000);
        notDone(level, far + "line 1;", 7);
        notDone(level, far + "line 1;shaft;", 7);
        ranTo(new int[] {0, 0, 1000, 0, 0}, "repeat 50{repeat 99{turn 1;}}repeat 50{turn 1;}", 6, 5000000);
    }

    /** Three axes closed, gap 1 .. 3, 10 .. 30, 100 .. 300 from 0 to 1; station 2 hangs on nothing. */
    private static TunnelBook meetingPlace() {
        TunnelBook x = withStations(2);
        x.tools(0, 0, 0, 0, 0);
        x.sight(0, 0, 1, 1, 3);
        x.sight(1, 0, 1, 10, 30);
        x.sight(2, 0, 1, 100, 300);
        Texts.way(x, 0, "");
        Texts.way(x, 5, "line 1;rise 5;");
        return x;
    }

    private static void meetingArguments() {
        says("meeting: a, b: 16 WAY + heading; FREE: others");
        TunnelBook x = meetingPlace();
        due("0 and 80", x.meeting(0, 0, 80, 1, 0, false), 1001);
        due("15 and 95", x.meeting(15, 0, 95, 1, 1, false), 10 - 383);
        due("95 and 15", x.meeting(95, 0, 15, 1, 1, false), 10 + 383);
        for (int o : new int[] {-1, -16, 16, 79, 96, 112, MIN, MAX}) {
            due("a " + o, x.meeting(o, 0, 0, 1, 0, true), FREE);
            due("b " + o, x.meeting(0, 0, o, 1, 0, true), FREE);
            due("fits, a " + o, x.fits(o, 0, 0, 1), NONE);
            due("fits, b " + o, x.fits(0, 0, o, 1), NONE);
        }
        for (int o : new int[] {-1, 3, 24, MIN, MAX}) {
            due("from " + o, x.meeting(0, o, 0, 1, 0, true), FREE);
            due("to " + o, x.meeting(0, 0, 0, o, 0, true), FREE);
            due("fits from " + o, x.fits(0, o, 0, 1), NONE);
            due("fits to " + o, x.fits(0, 0, 0, o), NONE);
            due("ways from " + o, x.ways(0, o, 0, 1, 1), NONE);
            due("ways to " + o, x.ways(0, 0, 0, o, 1), NONE);
        }
        for (int o : new int[] {-1, 3, MIN, MAX}) {
            due("axis " + o, x.meeting(0, 0, 0, 1, o, true), FREE);
        }
        due("z", x.meeting(0, 0, 0, 1, 2, true), 300);
    }

    private static void meetingEnds() {
        says("the end of the second less the end of the first: from the GAP of both STATIONS, the ends and all errors");
        TunnelBook x = meetingPlace();
        due("least", x.meeting(0, 0, 0, 1, 0, false), 1);
        due("greatest", x.meeting(0, 0, 0, 1, 0, true), 3);
        due("back", x.meeting(0, 1, 0, 0, 0, false), -3);
        due("back, greatest", x.meeting(0, 1, 0, 0, 0, true), -1);
        due("one STATION", x.meeting(0, 1, 80, 1, 0, false), 1000);
        due("one STATION and WAY", x.meeting(80, 2, 80, 2, 2, true), 0);
        x.tools(10, 20, 0, 0, 0);
        due("one error", x.meeting(0, 0, 80, 1, 0, false), 1000);
        due("one error, greatest", x.meeting(0, 0, 80, 1, 0, true), 1004);
        due("both errors", x.meeting(80, 0, 80, 1, 0, false), -1);
        due("both errors, greatest", x.meeting(80, 0, 80, 1, 0, true), 5);
        due("both errors on z", x.meeting(80, 0, 80, 1, 2, false), 96);
        due("no errors on y", x.meeting(80, 0, 80, 1, 1, false), 10);
        TunnelBook y = withStations(23);
        y.tools(0, 0, 0, 0, 0);
        for (int s = 0; s < 23; s++) {
            y.sight(0, s, s + 1, 1000000, 1000000);
        }
        Texts.way(y, 0, "repeat 10{line 9999;}line 10;");
        due("farthest", y.meeting(8, 0, 0, 23, 0, true), 223000000);
        due("farthest back", y.meeting(0, 23, 8, 0, 0, true), -223000000);
        // A million m there and back by 100 mm a m, and at last 100000 m away.
        yes("tools", y.tools(1000, 0, 0, 0, 0));
        Texts.way(y, 0, "repeat 45{line 9999;turn 8;line 9999;turn 8;}line 45;turn 8;line 45;turn 8;"
            + "repeat 10{line 9999;}line 10;");
        due("EX at the edge", y.run(0, 8, 3), 100000000);
        due("x at the edge", y.run(0, 8, 0), -100000000);
        due("farthest with both errors", y.meeting(8, 0, 0, 23, 0, true), 423000000);
        due("farthest with both errors, least", y.meeting(8, 0, 0, 23, 0, false), 23000000);
        due("farthest back with both errors", y.meeting(0, 23, 8, 0, 0, false), -423000000);
        due("farthest back with both errors, greatest", y.meeting(0, 23, 8, 0, 0, true), -23000000);
    }

    private static void noMeeting() {
        says("NONE: the GAP has no bound that way, that AXIS isn't CLOSED, a run isn't DONE");
        TunnelBook x = meetingPlace();
        Texts.way(x, 1, "repeat 99{repeat 99{poles;}}");
        for (int axis = 0; axis <= 2; axis++) {
            for (boolean high : new boolean[] {false, true}) {
                due("no bound", x.meeting(0, 0, 0, 2, axis, high), FREE);
                due("the first not done", x.meeting(16, 0, 0, 1, axis, high), FREE);
                due("the second not done", x.meeting(0, 0, 16, 1, axis, high), FREE);
            }
        }
        x.sight(1, 0, 1, 31, 31);
        due("not closed", x.meeting(0, 0, 0, 1, 1, false), FREE);
        due("one STATION, not closed", x.meeting(0, 1, 0, 1, 1, false), FREE);
        due("another axis", x.meeting(0, 0, 0, 1, 0, false), 1);
    }

    private static void meetingDay() {
        says("meeting: as KNOWN on the clock's DAY");
        TunnelBook x = meetingPlace();
        x.days(3);
        due("as ahead", x.meeting(0, 0, 0, 1, 0, true), 3);
        x.sight(0, 0, 1, 2, 2);
        due("by what is told today", x.meeting(0, 0, 0, 1, 0, true), 2);
        x.days(1000);
        due("by what is told earlier", x.meeting(0, 0, 0, 1, 0, false), 2);
    }

    private static void thereEnds() {
        says("there: from LOW to HIGH (each -1000000 .. 1000000, LOW not above; at first 0, 0)");
        TunnelBook x = meetingPlace();
        due("at first: 0 and 0", x.fits(0, 1, 0, 1), 0);
        due("at first: 0 and 1 .. 3", x.fits(0, 0, 0, 1), 1);
        yes("the least", x.there(0, -1000000, -1000000));
        due("the least", x.fits(0, 1, 0, 1), 1);
        yes("the greatest", x.there(1, 1000000, 1000000));
        yes("the widest", x.there(0, -1000000, 1000000));
        yes("the widest", x.there(1, -1000000, 1000000));
        yes("the widest", x.there(2, -1000000, 1000000));
        due("the widest", x.fits(0, 0, 0, 1), 0);
        int[][] others = {{-1000001, 0}, {-1000001, -1000001}, {0, 1000001}, {1000001, 1000001}, {1, 0}, {0, -1},
            {1000000, 999999}, {MIN, MAX}, {MIN, 0}, {0, MAX}};
        for (int[] o : others) {
            no("there from " + o[0] + " to " + o[1], x.there(0, o[0], o[1]));
        }
        for (int axis : new int[] {-1, 3, MIN, MAX}) {
            no("there on " + axis, x.there(axis, 0, 0));
        }
        due("as ahead", x.fits(0, 0, 0, 1), 0);
        yes("one value", x.there(0, 3, 3));
        due("one value", x.fits(0, 0, 0, 1), 0);
    }

    private static void thereAtFirst() {
        says("there: at first 0, 0");
        for (int axis = 0; axis <= 2; axis++) {
            for (int off = -2; off <= 2; off++) {
                TunnelBook x = withStations(1);
                x.tools(0, 0, 0, 0, 0);
                Texts.way(x, 0, "");
                for (int i = 0; i <= 2; i++) {
                    int gap = i == axis ? off : 0;
                    x.sight(i, 0, 1, gap, gap);
                }
                due("off by " + off + " on " + axis, x.fits(0, 0, 0, 1), off == 0 ? 0 : 1);
                no("there with LOW above", x.there(axis, 2, -2));
                due("off by " + off + " on " + axis + ", as ahead", x.fits(0, 0, 0, 1), off == 0 ? 0 : 1);
                yes("there", x.there(axis, off, off));
                due("off by " + off + " on " + axis + ", and there", x.fits(0, 0, 0, 1), 0);
            }
        }
    }

    private static void fittingDay() {
        says("fits, ways: what MEETING is, as KNOWN on the clock's DAY");
        TunnelBook x = meetingPlace();
        x.there(0, 1, 1);
        x.there(1, 10, 30);
        x.there(2, 100, 300);
        due("fits on DAY 0", x.fits(0, 0, 0, 1), 0);
        due("ways on DAY 0, each with itself", x.ways(0, 0, 0, 1, 0), 2);
        x.days(1);
        x.sight(0, 0, 1, 2, 3);
        due("fits by what is told today", x.fits(0, 0, 0, 1), 1);
        due("ways by what is told today", x.ways(0, 0, 0, 1, 0), 0);
        due("ways ruled out by what is told today", x.ways(0, 0, 0, 1, 1), 4);
        x.days(1000);
        due("fits by what is told earlier", x.fits(0, 0, 0, 1), 1);
        x.sight(1, 0, 1, 31, 31);
        due("fits, not closed by what is told today", x.fits(0, 0, 0, 1), 2);
        due("ways, not closed by what is told today", x.ways(0, 0, 0, 1, 2), 4);
        x.sight(0, 0, 2, 0, 0);
        x.sight(2, 0, 2, 0, 0);
        due("ways from other STATIONS, not closed either", x.ways(0, 1, 0, 2, 2), 4);
    }

    private static void fitsAtEdges() {
        says("They FIT what is there if for each AXIS some value is in both; RULED OUT else");
        int[][] gaps = {{1, 3}, {10, 30}, {100, 300}};
        for (int axis = 0; axis <= 2; axis++) {
            TunnelBook x = meetingPlace();
            for (int i = 0; i <= 2; i++) {
                x.there(i, -1000000, 1000000);
            }
            int[][] cases = {{-1000000, 0, 0}, {-1000000, 1, -1}, {1, 1, -1}, {0, 0, 0}};
            for (int[] c : cases) {
                int low = gaps[axis][0];
                x.there(axis, c[0] == -1000000 ? c[0] : low - 1 + c[0], low - 1 + c[1]);
                due("below on " + axis, x.fits(0, 0, 0, 1), c[2] == 0 ? 1 : 0);
            }
            int high = gaps[axis][1];
            x.there(axis, high, 1000000);
            due("above, touching, on " + axis, x.fits(0, 0, 0, 1), 0);
            x.there(axis, high + 1, 1000000);
            due("above, apart, on " + axis, x.fits(0, 0, 0, 1), 1);
            x.there(axis, high, high);
            due("the greatest on " + axis, x.fits(0, 0, 0, 1), 0);
            x.there(axis, high - 1, high - 1);
            due("inside on " + axis, x.fits(0, 0, 0, 1), 0);
        }
    }

    private static void openOnes() {
        says("OPEN, if for some AXIS there is none");
        for (int axis = 0; axis <= 2; axis++) {
            TunnelBook x = withStations(1);
            Texts.way(x, 0, "");
            for (int i = 0; i <= 2; i++) {
                if (i != axis) {
                    x.sight(i, 0, 1, 0, 0);
                }
            }
            due("no bound on " + axis, x.fits(0, 0, 0, 1), 2);
            x.there((axis + 1) % 3, 7, 7);
            due("no bound on " + axis + ", another ruled out", x.fits(0, 0, 0, 1), 2);
            due("ways open", x.ways(0, 0, 0, 1, 2), 1);
            due("ways ruled out", x.ways(0, 0, 0, 1, 1), 0);
            x.sight(axis, 0, 1, 0, 0);
            due("with a bound on " + axis, x.fits(0, 0, 0, 1), 1);
            x.there((axis + 1) % 3, 0, 0);
            due("fits", x.fits(0, 0, 0, 1), 0);
            x.sight(axis, 0, 1, 1, 1);
            due("not closed on " + axis, x.fits(0, 0, 0, 1), 2);
        }
        TunnelBook y = meetingPlace();
        Texts.way(y, 1, "repeat 99{repeat 99{poles;}}");
        due("not done", y.fits(0, 0, 16, 1), 2);
        due("not done, the first", y.fits(16, 0, 0, 1), 2);
        due("not done, both", y.fits(16, 0, 16, 1), 2);
    }

    private static void pairs() {
        says("How many pairs of told WAYS (the first, the second; also the same)");
        TunnelBook x = meetingPlace();
        x.there(0, -1000, 1000000);
        x.there(1, -1000000, 1000000);
        x.there(2, -1000000, 1000000);
        due("fit", x.ways(0, 0, 0, 1, 0), 4);
        x.there(0, 1, 3);
        due("fit: each with itself", x.ways(0, 0, 0, 1, 0), 2);
        due("ruled out: each with the other", x.ways(0, 0, 0, 1, 1), 2);
        due("open", x.ways(0, 0, 0, 1, 2), 0);
        due("fit from another heading", x.ways(8, 0, 0, 1, 0), 1);
        due("fit from the last headings", x.ways(15, 0, 15, 1, 0), 2);
        due("open to a STATION apart", x.ways(0, 0, 0, 2, 2), 4);
        for (int w = 1; w <= 4; w++) {
            Texts.way(x, w, "");
        }
        due("of all six", x.ways(0, 0, 0, 1, 0), 26);
        due("of all six, ruled out", x.ways(0, 0, 0, 1, 1), 10);
        due("of all six, open", x.ways(0, 0, 0, 2, 2), 36);
    }

    private static void pairArguments() {
        says("ways: headings 0 .. 15, what 0 .. 2; NONE for others");
        TunnelBook x = meetingPlace();
        for (int o : new int[] {-1, 16, MIN, MAX}) {
            due("heading A " + o, x.ways(o, 0, 0, 1, 1), NONE);
            due("heading B " + o, x.ways(0, 0, o, 1, 1), NONE);
        }
        for (int o : new int[] {-1, 3, MIN, MAX}) {
            due("what " + o, x.ways(0, 0, 0, 1, o), NONE);
        }
        due("what 1", x.ways(0, 0, 0, 1, 1), 4);
        TunnelBook y = new TunnelBook();
        for (int what = 0; what <= 2; what++) {
            due("without ways, " + what, y.ways(0, 0, 0, 0, what), 0);
            due("without ways from the last heading, " + what, y.ways(15, 0, 15, 0, what), 0);
        }
        due("without ways, 3", y.ways(0, 0, 0, 0, 3), NONE);
        due("fits without ways", y.fits(0, 0, 0, 0), NONE);
    }

    public static void main(String[] args) {
        firstTools();
        toolEnds();
        otherTools();
        runArguments();
        headings();
        roundHeadings();
        roundedUp();
        newRun();
        rises();
        shafts();
        polesCap();
        blocks();
        emptyBlocks();
        mostSteps();
        stepsWithinSteps();
        fullTexts();
        askewFar();
        roundedOnce();
        everyStart();
        runByItself();
        farthestPlace();
        greatestErrors();
        meetingArguments();
        meetingEnds();
        noMeeting();
        meetingDay();
        thereEnds();
        thereAtFirst();
        fittingDay();
        fitsAtEdges();
        openOnes();
        pairs();
        pairArguments();
        finish("RunEdgesTest");
    }
}
