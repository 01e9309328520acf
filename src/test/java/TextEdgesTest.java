/** The tape, texts and their faults: a test for each sentence that names an edge. */
public final class TextEdgesTest extends Edges {
    private static final int BLANKS = 0x20202020;

    private static int blanks(TunnelBook x) {
        return x.feed(BLANKS, BLANKS, BLANKS, BLANKS, BLANKS);
    }

    private static String times(String text, int n) {
        return text.repeat(n);
    }

    private static void taken(String text, int parts) {
        TunnelBook x = new TunnelBook();
        String what = " of " + text.replace('\n', '|');
        due("way" + what, Texts.way(x, 0, text), parts);
        due("fault" + what, x.fault(0), 0);
        due("place" + what, x.fault(1), NONE);
        due("about(7)" + what, x.about(7), 1);
        due("about(10)" + what, x.about(10), 0);
    }

    private static void faulty(String text, int fault, int place) {
        TunnelBook x = new TunnelBook();
        String what = " of " + text.replace('\n', '|');
        due("way" + what, Texts.way(x, 0, text), NONE);
        due("fault" + what, x.fault(0), fault);
        due("place" + what, x.fault(1), place);
        due("about(7)" + what, x.about(7), 0);
        due("about(10)" + what, x.about(10), 0);
    }

    private static void fullTape() {
        says("feed: how many it has. NONE, and none come, if there would be more than 400");
        TunnelBook x = new TunnelBook();
        for (int i = 1; i <= 20; i++) {
            due("feed", blanks(x), 20 * i);
        }
        due("the 21st", x.feed(-1, -1, -1, -1, -1), NONE);
        due("about(10)", x.about(10), 400);
        x.end(381);
        due("from 381", x.feed(-1, -1, -1, -1, -1), NONE);
        due("about(10) as ahead", x.about(10), 381);
        due("way: none came", x.way(0), 0);
        for (int i = 0; i < 19; i++) {
            blanks(x);
        }
        due("to 380", x.end(380), 380);
        due("from 380", x.feed(BLANKS, BLANKS, BLANKS, BLANKS, 0x20202023), 400);
        due("way", x.way(0), NONE);
        due("the last byte", x.fault(1), 399);
        due("feed anew", blanks(x), 20);
    }

    private static void byteOrder() {
        says("Twenty bytes come behind the tape, the highest of a first");
        for (int i = 0; i < 20; i++) {
            int[] fours = {BLANKS, BLANKS, BLANKS, BLANKS, BLANKS};
            fours[i / 4] ^= 3 << 8 * (3 - i % 4);
            TunnelBook x = new TunnelBook();
            blanks(x);
            x.feed(fours[0], fours[1], fours[2], fours[3], fours[4]);
            x.way(0);
            due("place of byte " + i, x.fault(1), 20 + i);
        }
        TunnelBook x = new TunnelBook();
        x.feed(0x72697365, 0x20373B20, BLANKS, BLANKS, BLANKS);
        due("rise 7;", x.way(0), 1);
        due("its z", x.run(0, 0, 2), 7);
    }

    private static void tapeEnd() {
        says("The tape has its first n bytes alone: n. NONE, and nothing is done, if it has not so many, or n is below 0");
        TunnelBook x = new TunnelBook();
        due("end(0) of none", x.end(0), 0);
        due("end(1) of none", x.end(1), NONE);
        x.feed(0x72697365, 0x20373939, 0x3B202020, BLANKS, BLANKS);
        for (int n : new int[] {-1, 21, 400, MIN, MAX}) {
            due("end(" + n + ") of 20", x.end(n), NONE);
        }
        due("about(10) as ahead", x.about(10), 20);
        due("end(20) of 20", x.end(20), 20);
        due("end(7)", x.end(7), 7);
        due("end(8) of 7", x.end(8), NONE);
        due("feed behind it", x.feed(0x3B000000, 0, 0, 0, 0), 27);
        due("end(8)", x.end(8), 8);
        due("way", x.way(0), 1);
        due("its z", x.run(0, 0, 2), 79);
        due("end(0)", x.end(0), 0);
        x.feed(0, 0, 0, 0, 0);
        due("end(0) of 20", x.end(0), 0);
        due("about(10)", x.about(10), 0);
    }

    private static void longestText() {
        says("texts of up to 400 bytes");
        taken(times("rise 1;", 57) + " ", 57);
        taken(times("rise 1;", 56) + "rise 11;", 57);
        taken(times(" ", 393) + "rise 1;", 1);
        taken(times("poles;", 66) + "\n\n\n\n", 66);
        taken("rise " + times("0", 393) + "1;", 1);
        taken("def a{}" + times("do a;", 78) + "   ", 79);
        taken(times("repeat 1{}", 40), 40);
        faulty(times("rise 1;", 56) + "rise 111", 1, 400);
        faulty(times("rise 1;", 57) + ";", 1, 399);
        faulty(times("rise 1;", 57) + "r", 1, 399);
        faulty("rise " + times("9", 395), 2, 5);
        faulty(times("a", 400), 1, 0);
        faulty(times(" ", 399) + "}", 1, 399);
        faulty(times("{", 400), 1, 0);
    }

    private static void emptyTexts() {
        says("{PART}: a text may be empty");
        taken("", 0);
        taken(" ", 0);
        taken("\n", 0);
        taken(times(" \n", 200), 0);
        taken("def a{}", 1);
        taken("repeat 1{ }", 1);
        TunnelBook x = new TunnelBook();
        due("way of a new object", x.way(0), 0);
        due("about(7)", x.about(7), 1);
    }

    private static void blanksAside() {
        says("blanks (32, 10) aside");
        taken("  rise\n\n7  ;\n", 1);
        for (int sign : new int[] {0, 9, 11, 12, 13, 31, 33, 127, 128, 160, 255}) {
            faulty("rise" + (char) sign + "7;", 1, 4);
            faulty((char) sign + "rise 7;", 1, 0);
            faulty("rise 7;" + (char) sign, 1, 7);
        }
    }

    private static void letterRows() {
        says("letters a .. z, A .. Z one behind the other (one TOKEN)");
        for (char sign : new char[] {'a', 'z', 'A', 'Z', 'm', 'M'}) {
            faulty("rise" + sign + " 1;", 1, 0);
            faulty("rise 1" + sign + ";", 1, 6);
            faulty(sign + "rise 1;", 1, 0);
        }
        // The bytes next to them; the one behind z is {.
        for (char sign : new char[] {'@', '[', '`', '{'}) {
            faulty("rise" + sign + " 1;", 1, 4);
        }
        faulty("ri se 1;", 1, 0);
        faulty("Rise 1;", 1, 0);
        faulty("RISE 1;", 1, 0);
        faulty("ris 1;", 1, 0);
        faulty("rises 1;", 1, 0);
        faulty("poles shafts;", 1, 6);
    }

    private static void digitRows() {
        says("digits likewise (NUMBERS)");
        taken("rise1;", 1);
        taken("rise012345;", 1);
        faulty("rise 0123456789;", 2, 5);
        faulty("rise 1 2;", 1, 7);
        faulty("rise 1\n2;", 1, 7);
        faulty("1rise 1;", 1, 0);
        faulty("rise 1/;", 1, 6);
        faulty("rise 9:;", 1, 6);
        faulty("rise -1;", 1, 5);
        faulty("rise +1;", 1, 5);
        faulty("rise 1.0;", 1, 6);
    }

    private static void range(String step, int low, int high, String rest) {
        int at = step.length();
        taken(step + low + rest, 1);
        taken(step + high + rest, 1);
        taken(step + "000000000000" + low + rest, 1);
        taken(step + "000000000000" + high + rest, 1);
        faulty(step + (high + 1) + rest, 2, at);
        // As an int or a long each of these would come round to 1.
        faulty(step + "4294967297" + rest, 2, at);
        faulty(step + "18446744073709551617" + rest, 2, at);
        faulty(step + "1000000000000000000000000000000" + rest, 2, at);
        if (low > 0) {
            faulty(step + (low - 1) + rest, 2, at);
            faulty(step + "00" + rest, 2, at);
        }
    }

    private static void lineNumbers() {
        says("line NUMBER ; (1 .. 9999 m)");
        range("line ", 1, 9999, ";");
    }

    private static void turnNumbers() {
        says("turn NUMBER ; (1 .. 15 sixteenths)");
        range("turn ", 1, 15, ";");
    }

    private static void riseNumbers() {
        says("rise NUMBER ; fall NUMBER ; (0 .. 100000 mm)");
        range("rise ", 0, 100000, ";");
        range("fall ", 0, 100000, ";");
    }

    private static void repeatNumbers() {
        says("repeat NUMBER { {STEP} } (1 .. 99)");
        range("repeat ", 1, 99, "{}");
    }

    private static void letters() {
        says("LETTER: one TOKEN of a .. h");
        for (char letter = 'a'; letter <= 'h'; letter++) {
            taken("def " + letter + "{}do " + letter + ";", 2);
        }
        for (String other : new String[] {"i", "z", "A", "H", "aa", "ab", "ha", "def", "do"}) {
            faulty("def " + other + "{}", 1, 4);
            faulty("do " + other + ";", 1, 3);
        }
        faulty("def `{}", 1, 4);
        faulty("def 1{}", 1, 4);
        faulty("def {}", 1, 4);
        faulty("def", 1, 3);
        faulty("do ;", 1, 3);
        faulty("do", 1, 2);
        faulty("do 1;", 1, 3);
    }

    private static void allLetters() {
        says("8 LETTERS, each told once");
        taken("def a{}def b{}def c{}def d{}def e{}def f{}def g{}def h{}", 8);
        taken("def h{}def a{do h;}def g{do a;do h;}do g;", 4);
        faulty("def a{}def b{}def c{}def d{}def e{}def f{}def g{}def h{}def h{}", 4, 60);
        faulty("def a{}def b{}def c{}def d{}def e{}def f{}def g{}def h{}def a{}", 4, 60);
        faulty("def a{}def b{}def c{}def d{}def e{}def f{}def g{}def h{}def i{}", 1, 60);
    }

    private static void misplaced() {
        says("1 it can't stand there, or is none");
        faulty(";", 1, 0);
        faulty("{}", 1, 0);
        faulty("}", 1, 0);
        faulty("5", 1, 0);
        faulty("a", 1, 0);
        faulty("rise ;", 1, 5);
        faulty("rise a;", 1, 5);
        faulty("rise {", 1, 5);
        faulty("rise 1{", 1, 6);
        faulty("rise 1}", 1, 6);
        faulty("rise 1 rise 2;", 1, 7);
        faulty("rise 1;;", 1, 7);
        faulty("rise 1;}", 1, 7);
        faulty("rise 1;{}", 1, 7);
        faulty("shaft 1;", 1, 6);
        faulty("shaft{}", 1, 5);
        faulty("poles poles;", 1, 6);
        faulty("repeat {}", 1, 7);
        faulty("repeat a{}", 1, 7);
        faulty("repeat 1;", 1, 8);
        faulty("repeat 1 rise 1;", 1, 9);
        faulty("repeat 1{};", 1, 10);
        faulty("repeat 1{}}", 1, 10);
        faulty("repeat 1{;}", 1, 9);
        faulty("repeat 1{{}}", 1, 9);
        faulty("def a;", 1, 5);
        faulty("def a 1{}", 1, 6);
        faulty("def a}", 1, 5);
        faulty("def a{};", 1, 7);
        faulty("def a{}}", 1, 7);
        faulty("def a{}do a{}", 1, 11);
        faulty("def a{}do a do a;", 1, 12);
    }

    private static void strangeBytes() {
        says("1 .. or is none: a byte that is no TOKEN, where each kind of TOKEN could stand");
        for (char sign : new char[] {0, '#', '/', ':', '@', '[', '`', '|', '~', 127, 255}) {
            faulty("" + sign, 1, 0);
            faulty("rise " + sign + ";", 1, 5);
            faulty("rise 1" + sign, 1, 6);
            faulty("repeat 1" + sign + "}", 1, 8);
            faulty("repeat 1{" + sign, 1, 9);
            faulty("repeat 1{}" + sign, 1, 10);
            faulty("def " + sign + "{}", 1, 4);
            faulty("def a" + sign + "}", 1, 5);
            faulty("def a{" + sign, 1, 6);
            faulty("do " + sign + ";", 1, 3);
        }
    }

    private static void readAfresh() {
        says("a text is read by itself");
        TunnelBook x = new TunnelBook();
        due("a def that doesn't end", Texts.way(x, 0, "def a{repeat 2{"), NONE);
        due("a repeat", Texts.way(x, 0, "repeat 5{rise 1;}"), 1);
        due("its z", x.run(0, 0, 2), 5);
        due("a def that doesn't end", Texts.way(x, 0, "def a{"), NONE);
        due("its letter isn't there", Texts.way(x, 0, "repeat 2{}do a;"), NONE);
        due("fault", x.fault(0), 4);
        due("the letter isn't there", Texts.way(x, 0, "do a;"), NONE);
        due("nor is it told", Texts.way(x, 0, "def a{rise 3;}do a;"), 2);
        due("its z", x.run(0, 0, 2), 3);
        due("it again", Texts.way(x, 1, "def a{rise 4;}do a;"), 2);
        due("z of the one", x.run(0, 0, 2), 3);
        due("z of the other", x.run(1, 0, 2), 4);
        for (int w = 0; w <= 5; w++) {
            Texts.way(x, w, "repeat 50{repeat 99{poles;}}");
            due("steps of " + w, x.run(w, 0, 8), 4950);
        }
        due("open to the deepest", Texts.way(x, 0, times("repeat 1{", 9)), NONE);
        due("open to the deepest anew", Texts.way(x, 0, times("repeat 1{", 8) + times("}", 8)), 1);
        due("with } too many", Texts.way(x, 0, "}"), NONE);
        due("place", x.fault(1), 0);
    }

    private static void defsInside() {
        says("PART: def LETTER { {STEP} }, or a STEP: no def inside another or a repeat");
        faulty("def a{def b{}}", 1, 6);
        faulty("def a{def a{}}", 1, 6);
        faulty("repeat 2{def a{}}", 1, 9);
        faulty("def a{repeat 2{def b{}}}", 1, 15);
        taken("repeat 2{}def a{}", 2);
        taken("def a{repeat 2{}}def b{}", 2);
    }

    private static void wrongNumbers() {
        says("2 a NUMBER that isn't one of those told");
        faulty("line 0;", 2, 5);
        faulty("line 10000;", 2, 5);
        faulty("line 0", 2, 5);
        faulty("turn 16 16;", 2, 5);
        faulty("rise 100001{", 2, 5);
        faulty("repeat 100", 2, 7);
        faulty("repeat 0;", 2, 7);
    }

    private static void deepest() {
        says("3 the 9th { that is open around one another");
        String open = "repeat 1{";
        taken(times(open, 8) + times("}", 8), 1);
        taken(times(open, 8) + "rise 1;" + times("}", 8), 1);
        taken("def a{" + times(open, 7) + times("}", 8), 1);
        taken("def a{}" + times(open, 8) + "do a;" + times("}", 8), 2);
        taken("def a{" + times(open, 7) + times("}", 8) + "def b{" + times(open, 7) + "do a;" + times("}", 8), 2);
        taken(times("repeat 1{}", 12), 12);
        taken(times(open, 7) + times("repeat 1{}", 9) + times("}", 7), 1);
        faulty(times(open, 9), 3, 80);
        faulty(times(open, 9) + times("}", 9), 3, 80);
        faulty("def a{" + times(open, 8) + times("}", 9), 3, 77);
        faulty(times(open, 7) + times("repeat 1{}", 9) + open + open + times("}", 9), 3, 170);
        faulty(times(open, 8) + "}" + open + open, 3, 90);
        faulty(times(open, 8) + "repeat 0{", 2, 79);
        faulty(times(open, 8) + "{", 1, 72);
        faulty(times(open, 8) + "repeat {", 1, 79);
        faulty(times(open, 8) + "repeat 1;", 1, 80);
        faulty(times(open, 8) + "repeat 1", 1, 80);
    }

    private static void toldLetters() {
        says("4 at a LETTER: of a def, that was told by a def ahead; of a do, that wasn't");
        faulty("def a{}def a{}", 4, 11);
        faulty("def a{}def b{}def a", 4, 18);
        faulty("def a{}rise 1;def a;", 4, 18);
        faulty("do a;", 4, 3);
        faulty("do h", 4, 3);
        faulty("do a{", 4, 3);
        faulty("def a{}do b;", 4, 10);
        faulty("do a;def a{}", 4, 3);
        faulty("repeat 9{do a;}def a{}", 4, 12);
        taken("def a{}do a;do a;", 3);
    }

    private static void fromItsEnd() {
        says("a def is there from its } on");
        faulty("def a{do a;}", 4, 9);
        faulty("def a{repeat 2{do a;}}", 4, 18);
        faulty("def a{repeat 2{}do a;}", 4, 19);
        faulty("def a{}def b{do b;}", 4, 16);
        taken("def a{}do a;", 2);
        taken("def a{repeat 2{}}do a;", 2);
        taken("def a{}def b{do a;}", 2);
    }

    private static void firstFault() {
        says("FAULTS, the first as TOKENS are come to");
        faulty("line 0;}", 2, 5);
        faulty("}line 0;", 1, 0);
        faulty("do a;line 0;", 4, 3);
        faulty("line 0;do a;", 2, 5);
        faulty("rise 1 #", 1, 7);
        faulty("turn 16;#", 2, 5);
        faulty("# turn 16;", 1, 0);
        faulty("do a;" + times("repeat 1{", 9), 4, 3);
        faulty(times("repeat 1{", 9) + "do a;", 3, 80);
    }

    private static void leastFault() {
        says("of one the least");
        faulty("0", 1, 0);
        faulty("rise 1 100001", 1, 7);
        faulty("shaft 999999;", 1, 6);
        faulty("do 0;", 1, 3);
        faulty("do i;", 1, 3);
        faulty("def a{}def i{}", 1, 11);
        faulty("def a{def a{}}", 1, 6);
    }

    private static void faultPlaces() {
        says("at the TOKEN's first byte (of the end at the length)");
        faulty("  \n  lin 1;", 1, 5);
        faulty("line   \n 0;", 2, 9);
        faulty("line 0010000;", 2, 5);
        faulty("line 1  ;  abc", 1, 11);
        faulty("line 1", 1, 6);
        faulty("line 1 ", 1, 7);
        faulty("line 1\n \n ", 1, 10);
        faulty("line", 1, 4);
        faulty("line ", 1, 5);
        faulty("repeat 2", 1, 8);
        faulty("repeat 2 ", 1, 9);
        faulty("repeat 2{", 1, 9);
        faulty("repeat 2{ ", 1, 10);
        faulty("repeat 2{rise 1;", 1, 16);
        faulty("def a", 1, 5);
        faulty("def a{", 1, 6);
        faulty("def a{repeat 2{}", 1, 16);
        faulty("def ", 1, 4);
        faulty("shaft", 1, 5);
    }

    private static void sixWays() {
        says("WAYS 0 .. 5; way: NONE, or (the tape stays) there is no such WAY");
        TunnelBook x = new TunnelBook();
        Texts.feed(x, "rise 7;");
        for (int w : new int[] {-1, 6, MIN, MAX}) {
            due("way(" + w + ")", x.way(w), NONE);
            due("about(10) as ahead", x.about(10), 7);
            due("fault as ahead", x.fault(0), NONE);
            due("place as ahead", x.fault(1), NONE);
        }
        due("way(0)", x.way(0), 1);
        due("about(10)", x.about(10), 0);
        due("way(5)", Texts.way(x, 5, "rise 8;"), 1);
        due("about(7)", x.about(7), 33);
        due("z of 0", x.run(0, 0, 2), 7);
        due("z of 5", x.run(5, 0, 2), 8);
        Texts.way(x, 1, "do a;");
        Texts.feed(x, "rise 9;");
        due("way(6)", x.way(6), NONE);
        due("the latest text's fault", x.fault(0), 4);
        due("the latest text's place", x.fault(1), 3);
        for (int w = 0; w <= 5; w++) {
            x.end(0);
            due("an empty text", x.way(w), 0);
        }
        due("about(7), all", x.about(7), 63);
    }

    private static void formerStays() {
        says("way: in place of what that was; it has a FAULT, the former one stays");
        TunnelBook x = new TunnelBook();
        Texts.way(x, 3, "rise 7;turn 2;");
        due("z", x.run(3, 0, 2), 7);
        due("with a fault", Texts.way(x, 3, "rise 8;rise 9"), NONE);
        due("about(10): empty then", x.about(10), 0);
        due("z as ahead", x.run(3, 0, 2), 7);
        due("heading as ahead", x.run(3, 0, 7), 2);
        due("z from another heading as ahead", x.run(3, 5, 2), 7);
        due("about(7)", x.about(7), 8);
        due("with a fault at first", Texts.way(x, 2, "#"), NONE);
        due("about(7) as ahead", x.about(7), 8);
        due("a way that wasn't told", x.run(2, 0, 2), FREE);
        due("without", Texts.way(x, 3, "rise 8;"), 1);
        due("z", x.run(3, 0, 2), 8);
        due("heading", x.run(3, 0, 7), 0);
        due("an empty one", Texts.way(x, 3, ""), 0);
        due("z of the empty one", x.run(3, 0, 2), 0);
        due("about(7)", x.about(7), 8);
        due("a letter of an earlier text", Texts.way(x, 3, "def a{}"), 1);
        due("isn't there in the next", Texts.way(x, 3, "do a;"), NONE);
        due("its fault", x.fault(0), 4);
    }

    private static void faultAnswers() {
        says("Of the latest text: 0 its FAULT (0 without), 1 its place (NONE without). NONE for others, and ahead of any");
        TunnelBook x = new TunnelBook();
        for (int what : new int[] {0, 1, 2, -1, MIN, MAX}) {
            due("fault(" + what + ") ahead of any", x.fault(what), NONE);
        }
        Texts.way(x, 0, "rise 1");
        due("fault(0)", x.fault(0), 1);
        due("fault(1)", x.fault(1), 6);
        for (int what : new int[] {2, -1, 3, MIN, MAX}) {
            due("fault(" + what + ")", x.fault(what), NONE);
        }
        Texts.way(x, 0, "rise 1;");
        due("fault(0) without", x.fault(0), 0);
        due("fault(1) without", x.fault(1), NONE);
        Texts.feed(x, "#");
        due("fault(0) of what is fed alone", x.fault(0), 0);
        x.way(4);
        due("fault(1) at 0", x.fault(1), 0);
    }

    public static void main(String[] args) {
        fullTape();
        byteOrder();
        tapeEnd();
        longestText();
        emptyTexts();
        blanksAside();
        letterRows();
        digitRows();
        lineNumbers();
        turnNumbers();
        riseNumbers();
        repeatNumbers();
        letters();
        allLetters();
        misplaced();
        strangeBytes();
        readAfresh();
        defsInside();
        wrongNumbers();
        deepest();
        toldLetters();
        fromItsEnd();
        firstFault();
        leastFault();
        faultPlaces();
        sixWays();
        formerStays();
        faultAnswers();
        finish("TextEdgesTest");
    }
}
