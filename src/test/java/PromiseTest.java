import java.util.Arrays;

/** Each promise by hand: what is ordinary, the edges that the document names, what is wrong. */
public final class PromiseTest {
    private static final int NONE = TunnelBook.NONE;
    private static final int FREE = TunnelBook.FREE;
    private static final int MIN = Integer.MIN_VALUE;
    private static final int MAX = Integer.MAX_VALUE;
    private static int wrong = 0;

    private static void due(String call, long got, long want) {
        if (got != want) {
            wrong++;
            System.out.println(call + " answered " + got + ", due is " + want);
        }
    }

    private static void yes(String call, boolean got) {
        due(call, got ? 1 : 0, 1);
    }

    private static void no(String call, boolean got) {
        due(call, got ? 1 : 0, 0);
    }

    private static TunnelBook withStations(int n) {
        TunnelBook x = new TunnelBook();
        for (int i = 0; i < n; i++) {
            x.station();
        }
        return x;
    }

    /** 1 and 35. */
    private static void aNewObject() {
        TunnelBook x = new TunnelBook();
        int[] fresh = {0, 1, 0, 0, 0, 0, 0, 0, 0, 0, 0};
        for (int what = 0; what < fresh.length; what++) {
            due("new: about " + what, x.about(what), fresh[what]);
        }
        for (int c = 0; c < 10; c++) {
            due("new: about table " + c, x.about(20 + c), 10 * c);
        }
        for (int what : new int[] {-1, 11, 12, 19, 30, MIN, MAX}) {
            due("new: about " + what, x.about(what), NONE);
        }
        due("new: span of 0", x.span(0, 0, 0, true), 0);
        due("new: span of 1", x.span(0, 1, 0, true), FREE);
        due("new: closed", x.closed(2, 0), 1);
        due("new: when", x.when(0, 0, false), NONE);
        due("new: fault", x.fault(0), NONE);
        due("new: fault's place", x.fault(1), NONE);
        due("new: unit", x.unit(false), NONE);
        due("new: run", x.run(0, 0, 0), FREE);
        due("new: ways", x.ways(0, 0, 0, 0, 0), 0);
        due("new: flow", x.flow(0, 0, 0, false), NONE);
    }

    /** 2. */
    private static void theClock() {
        TunnelBook x = new TunnelBook();
        due("days 1", x.days(1), 1);
        due("days 1000", x.days(1000), 1001);
        due("days 0", x.days(0), NONE);
        due("days 1001", x.days(1001), NONE);
        due("days -1", x.days(-1), NONE);
        due("days MAX", x.days(MAX), NONE);
        due("days MIN", x.days(MIN), NONE);
        for (int i = 0; i < 8; i++) {
            x.days(1000);
        }
        due("days to 9999 and one", x.days(999), NONE);
        due("days to 9999", x.days(998), 9999);
        due("days beyond", x.days(1), NONE);
        due("about day", x.about(0), 9999);
    }

    /** 3. */
    private static void stations() {
        TunnelBook x = new TunnelBook();
        for (int i = 1; i < 24; i++) {
            due("station", x.station(), i);
        }
        due("station beyond", x.station(), NONE);
        due("stations", x.about(1), 24);
        due("span of the last", x.span(0, 23, 0, true), FREE);
        due("sight of the last", x.sight(0, 0, 23, 1, 1), 0);
        due("sight beyond the last", x.sight(0, 0, 24, 1, 1), NONE);
    }

    /** 4. */
    private static void sights() {
        TunnelBook x = withStations(2);
        due("sight, widest", x.sight(0, 0, 1, -1000000, 1000000), 0);
        due("sight, axis 2", x.sight(2, 2, 1, 5, 5), 1);
        due("sight, axis 3", x.sight(3, 0, 1, 0, 0), NONE);
        due("sight, axis -1", x.sight(-1, 0, 1, 0, 0), NONE);
        due("sight, from -1", x.sight(0, -1, 1, 0, 0), NONE);
        due("sight, to 3", x.sight(0, 0, 3, 0, 0), NONE);
        due("sight, the same", x.sight(0, 2, 2, 0, 0), NONE);
        due("sight, low above", x.sight(0, 0, 1, 1, 0), NONE);
        due("sight, low below", x.sight(0, 0, 1, -1000001, 0), NONE);
        due("sight, high above", x.sight(0, 0, 1, 0, 1000001), NONE);
        due("sights", x.about(2), 2);
        for (int i = 2; i < 80; i++) {
            due("sight", x.sight(i % 3, 0, 1, -9, 9), i);
        }
        due("sight 80", x.sight(0, 0, 1, 0, 0), NONE);
        due("sights", x.about(2), 80);
    }

    /** 5. */
    private static void closedAxes() {
        TunnelBook x = withStations(4);
        x.sight(1, 3, 4, 10, 20);
        due("closed", x.closed(1, 0), 1);
        x.days(7);
        x.sight(1, 4, 3, -9, 0);
        due("closed ahead of it", x.closed(1, 6), 1);
        due("not closed, apart from station 0", x.closed(1, 7), 0);
        due("not closed, known later", x.closed(1, 9999), 0);
        due("closed, another axis", x.closed(0, 7), 1);
        due("closed, day -1", x.closed(1, -1), NONE);
        due("closed, day 10000", x.closed(1, 10000), NONE);
        due("closed, axis 3", x.closed(3, 0), NONE);
        due("closed, axis -1", x.closed(-1, 0), NONE);
        TunnelBook y = withStations(2);
        y.sight(0, 0, 1, 5, 5);
        y.sight(0, 1, 2, 5, 5);
        y.sight(0, 2, 0, -10, -10);
        due("closed just so", y.closed(0, 0), 1);
        y.sight(0, 2, 0, -11, -11);
        due("not closed by one", y.closed(0, 0), 0);
    }

    /** 6 and 7. */
    private static void spansAndGaps() {
        TunnelBook x = withStations(4);
        x.sight(0, 0, 1, 100, 200);
        x.sight(0, 2, 1, 10, 30);
        x.sight(0, 3, 4, 1, 2);
        due("span, against the sight, least", x.span(0, 2, 0, false), 70);
        due("span, against the sight, greatest", x.span(0, 2, 0, true), 190);
        due("gap 2 1", x.gap(0, 2, 1, 0, true), 30);
        due("gap 1 2", x.gap(0, 1, 2, 0, true), -10);
        due("gap 1 2, least", x.gap(0, 1, 2, 0, false), -30);
        due("gap 2 0", x.gap(0, 2, 0, 0, false), -190);
        due("gap apart from 0", x.gap(0, 3, 4, 0, false), 1);
        due("gap apart, greatest", x.gap(0, 4, 3, 0, true), -1);
        due("gap without bound", x.gap(0, 1, 3, 0, true), FREE);
        due("span without bound", x.span(0, 3, 0, true), FREE);
        due("gap of one", x.gap(0, 3, 3, 0, true), 0);
        due("gap, axis 3", x.gap(3, 0, 1, 0, true), FREE);
        due("gap, station 5", x.gap(0, 0, 5, 0, true), FREE);
        due("gap, station -1", x.gap(0, -1, 0, 0, true), FREE);
        due("gap, day -1", x.gap(0, 0, 1, -1, true), FREE);
        due("gap, day 10000", x.gap(0, 0, 1, 10000, true), FREE);
        due("span, station 5", x.span(0, 5, 0, true), FREE);
        due("span, station -1", x.span(0, -1, 0, true), FREE);
        x.days(3);
        x.sight(0, 0, 2, 100, 100);
        due("span known on day 2", x.span(0, 2, 2, false), 70);
        due("span known on day 3", x.span(0, 2, 3, false), 100);
        due("span of 1 known on day 3", x.span(0, 1, 3, true), 130);
        x.sight(0, 3, 4, 9, 9);
        due("span where another row isn't closed", x.span(0, 2, 3, false), FREE);
        due("span of 0 where it isn't closed", x.span(0, 0, 3, false), FREE);
        TunnelBook far = withStations(23);
        for (int i = 0; i < 23; i++) {
            far.sight(2, i, i + 1, 1000000, 1000000);
        }
        due("span, farthest", far.span(2, 23, 0, true), 23000000);
        due("gap, farthest back", far.gap(2, 23, 0, 0, false), -23000000);
    }

    /** 8. */
    private static void blamedSights() {
        TunnelBook x = withStations(3);
        x.sight(0, 0, 1, 10, 10);
        x.sight(1, 0, 1, 10, 10);
        x.sight(0, 1, 2, 10, 10);
        x.sight(0, 2, 3, 10, 10);
        due("blamed, closed", x.blamed(0, 0, 0), NONE);
        x.days(1);
        x.sight(0, 0, 2, 21, 30);
        due("blamed 0", x.blamed(0, 1, 0), 0);
        due("blamed 1", x.blamed(0, 1, 1), 2);
        due("blamed 2", x.blamed(0, 1, 2), 4);
        due("blamed 3", x.blamed(0, 1, 3), NONE);
        due("blamed -1", x.blamed(0, 1, -1), NONE);
        due("blamed the day ahead", x.blamed(0, 0, 0), NONE);
        due("blamed, another axis", x.blamed(1, 1, 0), NONE);
        due("blamed, axis 3", x.blamed(3, 1, 0), NONE);
        due("blamed, day 10000", x.blamed(0, 10000, 0), NONE);
        x.sight(0, 0, 3, 31, 31);
        due("blamed, two that don't fit: 0", x.blamed(0, 1, 0), 0);
        due("blamed, two that don't fit: 2", x.blamed(0, 1, 1), 2);
        due("blamed, two that don't fit: end", x.blamed(0, 1, 2), NONE);
        x.sight(0, 1, 0, 5, 5);
        due("blamed, none alone", x.blamed(0, 1, 0), NONE);
        due("not closed", x.closed(0, 1), 0);
    }

    /** 9 and 10. */
    private static void reaches() {
        TunnelBook x = withStations(1);
        no("mouth ahead of PEG 0", x.mouth(0, 0));
        due("reach, all least", x.reach(0, 1, 1, 1, 1, 100, NONE), 1);
        due("reach, all most", x.reach(0, 1000000, 1000000, 10000, 10000, 5000, 1), 2);
        due("pegs", x.about(3), 3);
        due("pegs of the other", x.about(4), 0);
        int[][] bad = {{2, 1, 1, 1, 1, 100, 0}, {-1, 1, 1, 1, 1, 100, 0}, {0, 0, 1, 1, 1, 100, 0},
            {0, 2, 1, 1, 1, 100, 0}, {0, 1, 1000001, 1, 1, 100, 0}, {0, 1, 1, 0, 1, 100, 0},
            {0, 1, 1, 2, 1, 100, 0}, {0, 1, 1, 1, 10001, 100, 0}, {0, 1, 1, 1, 1, 99, 0},
            {0, 1, 1, 1, 1, 5001, 0}, {0, 1, 1, 1, 1, 100, 2}, {0, 1, 1, 1, 1, 100, -2},
            {0, MIN, MAX, MIN, MAX, 100, 0}};
        for (int[] b : bad) {
            due("reach" + Arrays.toString(b), x.reach(b[0], b[1], b[2], b[3], b[4], b[5], b[6]), NONE);
        }
        for (int i = 3; i < 20; i++) {
            due("reach", x.reach(0, 1, 1, 1, 1, 100, 0), i);
        }
        due("reach 20", x.reach(0, 1, 1, 1, 1, 100, 0), NONE);
        due("pegs, most", x.about(3), 20);
        due("reach of the other", x.reach(1, 1, 1, 1, 1, 100, 0), 1);
        due("pegs of the other", x.about(4), 2);
        yes("mouth", x.mouth(0, 1));
        yes("mouth again", x.mouth(0, 0));
        no("mouth, station 2", x.mouth(0, 2));
        no("mouth, NONE", x.mouth(0, NONE));
        no("mouth, gallery 2", x.mouth(2, 0));
        no("mouth, gallery -1", x.mouth(-1, 0));
    }

    /** 11. */
    private static void marks() {
        TunnelBook x = new TunnelBook();
        due("mark without pegs", x.mark(0, 0, 0, 0), NONE);
        x.reach(0, 10, 10, 1, 10, 100, NONE);
        x.reach(1, 10, 10, 1, 10, 100, NONE);
        due("mark, widest", x.mark(0, 0, 0, 20000), 1);
        due("mark, last peg", x.mark(1, 1, 5, 5), 2);
        due("mark, peg 2", x.mark(0, 2, 0, 0), NONE);
        due("mark, peg -1", x.mark(0, -1, 0, 0), NONE);
        due("mark, gallery 2", x.mark(2, 0, 0, 0), NONE);
        due("mark, from -1", x.mark(0, 0, -1, 0), NONE);
        due("mark, to 20001", x.mark(0, 0, 0, 20001), NONE);
        due("mark, from above", x.mark(0, 0, 6, 5), NONE);
        due("marks", x.about(5), 2);
        for (int i = 3; i <= 40; i++) {
            due("mark", x.mark(i % 2, 1, 1, 20), i);
        }
        due("mark 41", x.mark(0, 0, 0, 0), NONE);
        due("marks", x.about(5), 40);
    }

    /** 12 and 13. */
    private static void digging() {
        TunnelBook x = new TunnelBook();
        x.reach(0, 100, 121, 10, 20, 100, NONE);
        due("when 0, least", x.when(0, 0, false), 0);
        due("when 0, greatest", x.when(0, 0, true), 19995);
        due("when 1, least", x.when(0, 1, false), 5);
        due("when 1, greatest", x.when(0, 1, true), 20000);
        due("between, least", x.between(0, 0, 1, false), 5);
        due("between, greatest", x.between(0, 0, 1, true), 12);
        x.reach(0, 101, 101, 20, 20, 100, NONE);
        due("when: no number of days", x.when(0, 0, false), NONE);
        due("between: no number of days", x.between(0, 0, 1, false), NONE);

        x = new TunnelBook();
        x.reach(1, 101, 139, 10, 20, 100, NONE);
        x.reach(1, 40, 60, 10, 20, 100, NONE);
        due("when, rounded up", x.when(1, 1, false), 6);
        x.mark(1, 2, 100, 110);
        x.mark(1, 2, 105, 120);
        due("when, both marks, least", x.when(1, 2, false), 105);
        due("when, both marks, greatest", x.when(1, 2, true), 110);
        due("when ahead, least", x.when(1, 0, false), 105 - 6 - 13);
        due("when ahead, greatest", x.when(1, 0, true), 110 - 2 - 6);
        x.mark(1, 0, 100, 100);
        due("between by marks, least", x.between(1, 0, 1, false), 6);
        due("between by marks, greatest", x.between(1, 0, 1, true), 8);
        due("between by marks, all", x.between(1, 0, 2, false), 8);
        due("between by marks, second", x.between(1, 1, 2, true), 4);
        due("between, the second ahead", x.between(1, 1, 0, true), NONE);
        due("between, one", x.between(1, 1, 1, true), NONE);
        due("between, peg 3", x.between(1, 0, 3, true), NONE);
        due("between, peg -1", x.between(1, -1, 1, true), NONE);
        due("when, peg 3", x.when(1, 3, true), NONE);
        due("when, peg -1", x.when(1, -1, true), NONE);
        due("when, gallery 2", x.when(2, 0, true), NONE);
        due("between, gallery -1", x.between(-1, 0, 1, true), NONE);
        due("when, no pegs", x.when(0, 0, true), NONE);
        x.reach(0, 10, 10, 1, 10, 100, NONE);
        x.mark(1, 1, 0, 99);
        due("when, broken", x.when(1, 2, true), NONE);
        due("between, broken", x.between(1, 0, 1, true), NONE);
        due("when, the other gallery", x.when(0, 1, true), 20000);

        x = new TunnelBook();
        x.reach(0, 20000, 20000, 1, 1, 100, NONE);
        due("when, all days", x.when(0, 0, true), 0);
        x.reach(0, 1, 1, 1, 1, 100, NONE);
        due("when, beyond all days", x.when(0, 0, true), NONE);
    }

    /** 14. */
    private static void lamps() {
        TunnelBook x = new TunnelBook();
        x.reach(0, 1000, 1100, 1, 10, 100, NONE);
        due("lamps, most", x.lamps(0, 1, 11, 100, 100), 1);
        due("lamps, least", x.lamps(0, 1, 10, 100, 100), 1);
        due("lamps, too few", x.lamps(0, 1, 9, 100, 100), 0);
        due("lamps, too many", x.lamps(0, 1, 12, 100, 100), 0);
        due("lamps, none", x.lamps(0, 1, 0, 1, 1001), 1);
        due("lamps, none but one", x.lamps(0, 1, 0, 1, 1000), 0);
        due("lamps, whole lengths", x.lamps(0, 1, 9999, 1, 1), 0);
        x.reach(0, 7, 7, 1, 10, 100, NONE);
        due("lamps, 7 / 2", x.lamps(0, 2, 3, 2, 2), 1);
        due("lamps, none is so", x.lamps(0, 2, 4, 1, 9), 0);
        due("lamps, 7 / 3", x.lamps(0, 2, 2, 1, 9), 1);
        due("lamps, peg 0", x.lamps(0, 0, 1, 1, 1), NONE);
        due("lamps, peg 3", x.lamps(0, 3, 1, 1, 1), NONE);
        due("lamps, gallery 1", x.lamps(1, 1, 1, 1, 1), NONE);
        due("lamps, gallery 2", x.lamps(2, 1, 1, 1, 1), NONE);
        due("lamps, holes -1", x.lamps(0, 1, -1, 1, 1), NONE);
        due("lamps, holes 10000", x.lamps(0, 1, 10000, 1, 1), NONE);
        due("lamps, low 0", x.lamps(0, 1, 1, 0, 1), NONE);
        due("lamps, low above", x.lamps(0, 1, 1, 2, 1), NONE);
        due("lamps, high 100001", x.lamps(0, 1, 1, 1, 100001), NONE);
        due("lamps, high 100000", x.lamps(0, 1, 0, 100000, 100000), 1);
    }

    /** 15 and 16. */
    private static void theUnit() {
        TunnelBook x = new TunnelBook();
        due("count, most", x.count(1, 2000000, 2000000), 1);
        due("unit, most", x.unit(true), 2000000000);
        due("unit, most, least", x.unit(false), 2000000000);
        due("count, no unit left", x.count(2, 1, 3999999 / 2), NONE);
        due("unit as ahead", x.unit(false), 2000000000);
        x = new TunnelBook();
        due("count, most units", x.count(9999, 1, 2000000), 1);
        due("unit, cut", x.unit(true), 200020);
        int[][] bad = {{0, 1, 1}, {10000, 1, 2000000}, {1, 0, 1}, {1, 2, 1}, {1, 1, 2000001}, {MIN, MIN, MAX}};
        for (int[] b : bad) {
            due("count" + Arrays.toString(b), x.count(b[0], b[1], b[2]), NONE);
        }
        TunnelBook y = new TunnelBook();
        due("count, none is so", y.count(9999, 1, 1), NONE);
        due("unit without counts", y.unit(true), NONE);
        due("count", y.count(7, 10, 11), 1);
        due("unit, rounded up", y.unit(false), 1429);
        due("unit, cut", y.unit(true), 1571);
        due("count, at the edge", y.count(1000, 1571, 1600), 2);
        due("unit, one left", y.unit(false), 1571);
        for (int i = 3; i <= 30; i++) {
            due("count", y.count(1, 1, 2), i);
        }
        due("count 31", y.count(1, 1, 2), NONE);
        due("counts", y.about(6), 30);
    }

    /** 17 and 18. */
    private static void theTape() {
        TunnelBook x = new TunnelBook();
        for (int i = 1; i <= 20; i++) {
            due("feed", x.feed(0x20202020, 0x20202020, 0x20202020, 0x20202020, 0x20202020), 20 * i);
        }
        due("feed, full", x.feed(0, 0, 0, 0, 0), NONE);
        due("tape, full", x.about(10), 400);
        due("end, all", x.end(400), 400);
        due("end, more", x.end(401), NONE);
        due("end, -1", x.end(-1), NONE);
        due("end, 381", x.end(381), 381);
        due("feed over", x.feed(0, 0, 0, 0, 0), NONE);
        due("tape as ahead", x.about(10), 381);
        due("end, 0", x.end(0), 0);
        due("end, 1 of 0", x.end(1), NONE);
        due("feed", x.feed(0x73686166, 0x743B0A7B, 0xFF000000, 0, 0), 20);
        due("way: the bytes in their order", x.way(0), NONE);
        due("fault", x.fault(0), 1);
        due("place", x.fault(1), 7);
        due("feed anew", x.feed(0xE0202020, 0, 0, 0, 0), 20);
        due("way: a high byte", x.way(0), NONE);
        due("place of a high byte", x.fault(1), 0);
    }

    private static void faulty(String text, int fault, int place) {
        TunnelBook x = new TunnelBook();
        due("way " + text, Texts.way(x, 5, text), NONE);
        due("fault of " + text, x.fault(0), fault);
        due("place in " + text, x.fault(1), place);
        due("told after " + text, x.about(7), 0);
        due("tape after " + text, x.about(10), 0);
    }

    private static void whole(String text, int parts) {
        TunnelBook x = new TunnelBook();
        due("way " + text, Texts.way(x, 5, text), parts);
        due("fault of " + text, x.fault(0), 0);
        due("place in " + text, x.fault(1), NONE);
        due("told after " + text, x.about(7), 32);
        due("tape after " + text, x.about(10), 0);
    }

    /** 19 and 20. */
    private static void texts() {
        whole("", 0);
        whole(" \n ", 0);
        whole("line 1;line 9999;turn 1;turn 15;rise 0;fall 0;rise 100000;fall 100000;shaft;poles;", 10);
        whole("def h{}def a{do h;}do a;repeat 1{}repeat 99{do h;}", 5);
        whole("line\n007\n;", 1);
        whole("line1;repeat2{turn3;}", 2);
        whole("repeat 1{repeat 1{repeat 1{repeat 1{repeat 1{repeat 1{repeat 1{repeat 1{}}}}}}}}", 1);
        whole("def a{repeat 1{repeat 1{repeat 1{repeat 1{repeat 1{repeat 1{repeat 1{}}}}}}}}repeat 1{}", 2);
        whole("repeat 2{}repeat 2{}repeat 2{}repeat 2{}repeat 2{}repeat 2{}repeat 2{}repeat 2{}repeat 2{}", 9);
        faulty("line 1", 1, 6);
        faulty("line 1 \n", 1, 8);
        faulty("line", 1, 4);
        faulty("line ;", 1, 5);
        faulty("line a;", 1, 5);
        faulty("line -1;", 1, 5);
        faulty("line1#;", 1, 5);
        faulty("line 10000;", 2, 5);
        faulty("line 0;", 2, 5);
        faulty("turn 16;", 2, 5);
        faulty("turn 0;", 2, 5);
        faulty("rise 100001;", 2, 5);
        faulty("fall 99999999999999999999999999;", 2, 5);
        faulty("repeat 0{}", 2, 7);
        faulty("repeat 100{}", 2, 7);
        faulty("repeat 4 line 1;", 1, 9);
        faulty("repeat 4{line 1;", 1, 16);
        faulty("repeat {}", 1, 7);
        faulty("}", 1, 0);
        faulty("line 1;}", 1, 7);
        faulty("{}", 1, 0);
        faulty(";", 1, 0);
        faulty("7;", 1, 0);
        faulty("Line 1;", 1, 0);
        faulty("lin 1;", 1, 0);
        faulty("linea 1;", 1, 0);
        faulty("line 1;;", 1, 7);
        faulty("line 1 2;", 1, 7);
        faulty("shaft 1;", 1, 6);
        faulty("line\t1;", 1, 4);
        faulty("line 1;#", 1, 7);
        faulty("def i{}", 1, 4);
        faulty("def A{}", 1, 4);
        faulty("def ab{}", 1, 4);
        faulty("def 1{}", 1, 4);
        faulty("def a;", 1, 5);
        faulty("def a{def b{}}", 1, 6);
        faulty("repeat 1{def b{}}", 1, 9);
        faulty("def a{line 1;", 1, 13);
        faulty("def a{}def a{}", 4, 11);
        faulty("do a;", 4, 3);
        faulty("do i;", 1, 3);
        faulty("do a", 4, 3);
        faulty("def a{do a;}", 4, 9);
        faulty("def a{}do b;", 4, 10);
        faulty("def a{}do a}", 1, 11);
        faulty("do a;def a{}", 4, 3);
        faulty("line 0 #", 2, 5);
        faulty("# line 0", 1, 0);
        faulty("repeat 1{repeat 1{repeat 1{repeat 1{repeat 1{repeat 1{repeat 1{repeat 1{repeat 1{", 3, 80);
        faulty("def a{repeat 1{repeat 1{repeat 1{repeat 1{repeat 1{repeat 1{repeat 1{repeat 1{", 3, 77);
        faulty("repeat 1{repeat 1{repeat 1{repeat 1{repeat 1{repeat 1{repeat 1{repeat 1{{", 1, 72);
    }

    /** 19 and 20: what a fault leaves. */
    private static void replacing() {
        TunnelBook x = new TunnelBook();
        Texts.way(x, 0, "rise 7;");
        due("run", x.run(0, 0, 2), 7);
        due("way with a fault", Texts.way(x, 0, "rise 8; rise"), NONE);
        due("the former one", x.run(0, 0, 2), 7);
        due("fault", x.fault(0), 1);
        Texts.feed(x, "rise 9;");
        due("no such way", x.way(6), NONE);
        due("no such way", x.way(-1), NONE);
        due("the tape stays", x.about(10), 7);
        due("the fault stays", x.fault(1), 12);
        due("way", x.way(0), 1);
        due("in place of it", x.run(0, 0, 2), 9);
        due("fault 0", x.fault(0), 0);
        due("fault 2", x.fault(2), NONE);
        due("fault -1", x.fault(-1), NONE);
        due("empty way", x.way(3), 0);
        due("empty run", x.run(3, 9, 7), 9);
        due("told", x.about(7), 9);
    }

    private static void ran(String text, int heading, int... want) {
        TunnelBook x = new TunnelBook();
        Texts.way(x, 2, text);
        for (int what = 0; what < want.length; what++) {
            due("run of " + text + " from " + heading + ", " + what, x.run(2, heading, what), want[what]);
        }
    }

    /** 21. */
    private static void tools() {
        TunnelBook x = new TunnelBook();
        Texts.way(x, 0, "turn 1;line 10;");
        due("EX", x.run(0, 3, 3), 10);
        due("EZ", x.run(0, 3, 5), 3);
        yes("tools", x.tools(1000, 1000, 1000, 10000, 1000));
        due("EX, other tools", x.run(0, 3, 3), 1000);
        due("EY, other tools", x.run(0, 3, 4), 1000);
        due("EZ, other tools", x.run(0, 3, 5), 1000);
        due("ASKEW, other tools", x.run(0, 3, 6), 1000);
        int[][] bad = {{1001, 0, 0, 0, 0}, {0, 1001, 0, 0, 0}, {0, 0, 1001, 0, 0}, {0, 0, 0, 10001, 0},
            {0, 0, 0, 0, 1001}, {-1, 0, 0, 0, 0}, {0, -1, 0, 0, 0}, {0, 0, -1, 0, 0}, {0, 0, 0, -1, 0},
            {0, 0, 0, 0, -1}};
        for (int[] b : bad) {
            no("tools" + Arrays.toString(b), x.tools(b[0], b[1], b[2], b[3], b[4]));
        }
        due("as ahead", x.run(0, 3, 5), 1000);
        yes("tools, none", x.tools(0, 0, 0, 0, 0));
        due("ASKEW, no tools", x.run(0, 3, 6), 0);
        due("EX, no tools", x.run(0, 3, 3), 0);
    }

    /** 22. */
    private static void runs() {
        int[] east = {1000, 924, 707, 383, 0, -383, -707, -924, -1000, -924, -707, -383, 0, 383, 707, 924};
        for (int h = 0; h < 16; h++) {
            ran("line 1;", h, east[h], east[(h + 12) % 16]);
        }
        ran("line 1;", 0, 1000, 0, 0, 1, 0, 1, 0, 0, 1);
        ran("line 3;", 1, 2772, 1149, 0, 2, 1, 1, 0, 1, 1);
        ran("turn 15;turn 3;", 0, 0, 0, 0, 0, 0, 0, 20, 2, 2);
        ran("rise 9;fall 100;", 5, 0, 0, -91, 0, 0, 0, 0, 5, 2);
        // a = 5 and b = 10 for each line; shaft and poles cap what is above them alone.
        ran("turn 4;line 10;turn 12;line 10;", 0, 10000, 10000, 0, 15, 25, 6, 20, 0, 4);
        ran("turn 1;turn 1;shaft;", 0, 0, 0, 0, 0, 0, 0, 10, 2, 3);
        ran("turn 1;poles;", 0, 0, 0, 0, 0, 0, 0, 4, 1, 2);
        ran("poles;shaft;", 0, 0, 0, 0, 0, 0, 0, 0, 0, 2);
        ran("line 200;shaft;", 0, 200000, 0, 0, 50, 0, 60, 0, 0, 2);
        ran("line 50;shaft;", 0, 50000, 0, 0, 25, 0, 15, 0, 0, 2);
        ran("line 200;shaft;", 4, 0, 200000, 0, 0, 50, 60, 0, 4, 2);
        ran("def a{rise 1;}def b{repeat 3{do a;}do a;}repeat 2{do b;fall 1;}", 0, 0, 0, 6, 0, 0, 0, 0, 0, 10);
        ran("def a{}repeat 99{do a;repeat 99{repeat 99{repeat 99{do a;}}}}rise 1;", 0, 0, 0, 1, 0, 0, 0, 0, 0, 1);
        ran("repeat 1{}repeat 2{}def a{}do a;", 3, 0, 0, 0, 0, 0, 0, 0, 3, 0);
        ran("repeat 1{rise 1;repeat 1{rise 2;}}", 0, 0, 0, 3, 0, 0, 0, 0, 0, 2);
        ran("repeat 50{repeat 99{poles;}}repeat 50{poles;}", 0, 0, 0, 0, 0, 0, 0, 0, 0, 5000);
        ran("repeat 50{repeat 99{poles;}}repeat 51{poles;}", 0, FREE, FREE, FREE, FREE, FREE, FREE, FREE, FREE, FREE);
        ran("def a{repeat 99{poles;}}def b{repeat 99{do a;}}def c{repeat 99{do b;}}repeat 99{do c;}", 0, FREE);
        ran("repeat 10{repeat 99{rise 100000;}}repeat 10{rise 100000;}", 0, 0, 0, 100000000);
        ran("repeat 10{repeat 99{rise 100000;}}repeat 10{rise 100000;}rise 1;fall 1;", 0, FREE);
        ran("repeat 10{repeat 99{fall 100000;}}repeat 10{fall 100000;}", 0, 0, 0, -100000000);
        ran("repeat 10{repeat 99{fall 100000;}}repeat 10{fall 100000;}fall 1;", 0, FREE);
        ran("repeat 10{line 9999;}line 10;", 8, -100000000);
        ran("repeat 10{line 9999;}line 11;", 8, FREE);
        ran("repeat 10{line 9999;}line 11;", 12, FREE);
        ran("repeat 10{line 9999;}line 10;", 12, 0, -100000000);
        ran("repeat 10{line 9999;}line 10;", 4, 0, 100000000);
        ran("repeat 10{line 9999;}line 11;", 4, FREE, FREE);
        TunnelBook x = new TunnelBook();
        Texts.way(x, 0, "rise 1;");
        due("run, way 1", x.run(1, 0, 2), FREE);
        due("run, way 6", x.run(6, 0, 2), FREE);
        due("run, way -1", x.run(-1, 0, 2), FREE);
        due("run, heading 16", x.run(0, 16, 2), FREE);
        due("run, heading -1", x.run(0, -1, 2), FREE);
        due("run, 9", x.run(0, 0, 9), FREE);
        due("run, -1", x.run(0, 0, -1), FREE);
        x.tools(1000, 0, 1000, 0, 0);
        // Heading 4, ASKEW 99000: 98990100 aside for the first line.
        Texts.way(x, 1, "repeat 99{turn 1;}line 9999;line 91;");
        due("EX, not beyond", x.run(1, 1, 3), 98990100 + 900900);
        due("EY, not beyond", x.run(1, 1, 4), 999900 + 9100);
        Texts.way(x, 1, "repeat 99{turn 1;}line 9999;line 110;");
        due("EX, beyond", x.run(1, 1, 3), FREE);
        due("EY, beyond", x.run(1, 5, 4), FREE);
        x.tools(0, 1000, 0, 0, 0);
        Texts.way(x, 1, "repeat 50{line 9999;turn 8;line 9999;turn 8;}line 100;");
        due("EZ, just not beyond", x.run(1, 0, 5), 100000000);
        Texts.way(x, 1, "repeat 50{line 9999;turn 8;line 9999;turn 8;}line 101;");
        due("EZ, beyond", x.run(1, 0, 5), FREE);
        x.tools(1000, 0, 0, 0, 0);
        Texts.way(x, 1, "repeat 50{line 9999;turn 8;line 9999;turn 8;}line 100;");
        due("EX, just not beyond", x.run(1, 0, 3), 100000000);
        due("EY, just not beyond", x.run(1, 4, 4), 100000000);
        Texts.way(x, 1, "repeat 50{line 9999;turn 8;line 9999;turn 8;}line 101;");
        due("EX, one line beyond", x.run(1, 0, 3), FREE);
        due("EY, one line beyond", x.run(1, 4, 4), FREE);
    }

    /** 23 to 26. */
    private static void meetings() {
        TunnelBook x = withStations(2);
        Texts.way(x, 0, "line 10;rise 5;");
        Texts.way(x, 4, "fall 3;");
        for (int axis = 0; axis < 3; axis++) {
            x.sight(axis, 0, 1, 10000 * axis, 10000 * axis + 10);
        }
        // Way 0 from heading 0 ends at (10000, 0, 5) with errors (5, 0, 3), way 4 at (0, 0, -3) with none.
        due("meeting x", x.meeting(0, 0, 64, 1, 0, false), -10005);
        due("meeting x, greatest", x.meeting(0, 0, 64, 1, 0, true), -9985);
        due("meeting y", x.meeting(0, 0, 64, 1, 1, false), 10000);
        due("meeting y, greatest", x.meeting(0, 0, 64, 1, 1, true), 10010);
        due("meeting z", x.meeting(0, 0, 64, 1, 2, false), 19989);
        due("meeting z, greatest", x.meeting(0, 0, 64, 1, 2, true), 20005);
        due("meeting, the other way round", x.meeting(64, 1, 0, 0, 2, true), -19989);
        due("meeting, from heading 4", x.meeting(4, 0, 64, 1, 1, true), 15);
        due("meeting with itself", x.meeting(0, 0, 8, 1, 0, true), -19980);
        due("meeting, no bound", x.meeting(0, 0, 64, 2, 0, true), FREE);
        due("meeting, way not told", x.meeting(16, 0, 64, 1, 0, true), FREE);
        due("meeting, 96", x.meeting(0, 0, 96, 1, 0, true), FREE);
        due("meeting, -1", x.meeting(-1, 0, 0, 1, 0, true), FREE);
        due("meeting, station 3", x.meeting(0, 0, 64, 3, 0, true), FREE);
        due("meeting, station -1", x.meeting(0, -1, 64, 1, 0, true), FREE);
        due("meeting, axis 3", x.meeting(0, 0, 64, 1, 3, true), FREE);
        due("meeting, axis -1", x.meeting(0, 0, 64, 1, -1, true), FREE);

        due("fits, at first", x.fits(0, 0, 64, 1), 1);
        yes("there", x.there(0, -9985, 1000000));
        yes("there", x.there(1, -1000000, 10000));
        due("fits, z not", x.fits(0, 0, 64, 1), 1);
        yes("there", x.there(2, 20005, 20005));
        due("fits", x.fits(0, 0, 64, 1), 0);
        yes("there", x.there(2, 20006, 20006));
        due("fits, one too high", x.fits(0, 0, 64, 1), 1);
        yes("there", x.there(2, 19988, 19988));
        due("fits, one too low", x.fits(0, 0, 64, 1), 1);
        yes("there", x.there(2, 19000, 21000));
        no("there, axis 3", x.there(3, 0, 0));
        no("there, axis -1", x.there(-1, 0, 0));
        no("there, low above", x.there(2, 1, 0));
        no("there, low", x.there(2, -1000001, 0));
        no("there, high", x.there(2, 0, 1000001));
        due("fits, as ahead", x.fits(0, 0, 64, 1), 0);
        yes("there", x.there(0, -9985, -9985));
        due("fits at the edge", x.fits(0, 0, 64, 1), 0);
        due("fits, open", x.fits(0, 0, 64, 2), 2);
        due("fits, way not told", x.fits(0, 0, 32, 1), NONE);
        due("fits, 96", x.fits(96, 0, 0, 1), NONE);
        due("fits, station 3", x.fits(0, 3, 0, 1), NONE);

        due("ways that fit", x.ways(0, 0, 0, 1, 0), 1);
        due("ways ruled out", x.ways(0, 0, 0, 1, 1), 3);
        due("ways open", x.ways(0, 0, 0, 1, 2), 0);
        due("ways open, no bound", x.ways(0, 0, 0, 2, 2), 4);
        due("ways from other headings", x.ways(4, 0, 4, 1, 0), 0);
        due("ways, what 3", x.ways(0, 0, 0, 1, 3), NONE);
        due("ways, what -1", x.ways(0, 0, 0, 1, -1), NONE);
        due("ways, heading 16", x.ways(16, 0, 0, 1, 0), NONE);
        due("ways, heading -1", x.ways(0, 0, -1, 1, 0), NONE);
        due("ways, station 3", x.ways(0, 3, 0, 1, 0), NONE);
        due("ways, station -1", x.ways(0, 0, 0, -1, 0), NONE);
        Texts.way(x, 5, "repeat 99{repeat 99{poles;}}");
        due("fits, not done", x.fits(0, 0, 80, 1), 2);
        due("meeting, not done", x.meeting(80, 0, 0, 1, 0, true), FREE);
        due("ways open, not done", x.ways(0, 0, 0, 1, 2), 5);
        due("ways that fit, as ahead", x.ways(0, 0, 0, 1, 0), 1);
        x.days(4);
        x.sight(2, 0, 1, 0, 0);
        due("meeting, not closed", x.meeting(0, 0, 64, 1, 2, true), FREE);
        due("meeting, another axis", x.meeting(0, 0, 64, 1, 1, true), 10010);
        due("fits, not closed", x.fits(0, 0, 64, 1), 2);
    }

    /** 27 and 28. */
    private static void chances() {
        TunnelBook x = new TunnelBook();
        due("chance, at first", x.chance(3, 0, false), 20);
        due("chance, at first, lower", x.chance(3, 0, true), 27);
        due("chance, surely", x.chance(3, 4, false), 1);
        due("chance, surely, lower", x.chance(3, 4, true), 1);
        yes("seek", x.seek(9, 9, 9, 0, 0, 20));
        due("chance, never", x.chance(12, 0, false), 0);
        due("chance, never, lower", x.chance(12, 0, true), 1);
        yes("seek", x.seek(1, 0, 3, 0, 0, 1));
        due("chance, weighed", x.chance(2, 0, false), 5);
        due("chance, weighed, lower", x.chance(2, 0, true), 8);
        yes("seek", x.seek(1, 0, 1, 1, 1, 0));
        // Ahead of the last two steps no pull: 1 off at AHEAD 2, pulled at 1 and at 0.
        due("chance, heard late", x.chance(3, 0, false), 1);
        due("chance, heard late, lower", x.chance(3, 0, true), 4);
        yes("seek", x.seek(0, 9, 0, 40, 3, 2));
        due("chance, pulled", x.chance(6, 20, false), 0);
        due("chance, pulled too late", x.chance(5, 20, false), 1);
        due("chance, pulled from the other side", x.chance(5, -20, false), 1);
        due("chance, not beyond 0", x.chance(7, -20, false), 0);
        due("chance, 0 ahead", x.chance(0, 0, false), NONE);
        due("chance, 13 ahead", x.chance(13, 0, false), NONE);
        due("chance, 21 off", x.chance(1, 21, false), NONE);
        due("chance, -21 off", x.chance(1, -21, false), NONE);
        int[][] bad = {{0, 0, 0, 0, 0, 0}, {10, 0, 0, 0, 0, 0}, {0, 10, 0, 0, 0, 0}, {0, 0, 10, 0, 0, 0},
            {-1, 1, 1, 0, 0, 0}, {1, -1, 1, 0, 0, 0}, {1, 1, -1, 0, 0, 0}, {1, 1, 1, 41, 0, 0}, {1, 1, 1, -1, 0, 0},
            {1, 1, 1, 0, 4, 0}, {1, 1, 1, 0, -1, 0}, {1, 1, 1, 0, 0, 21}, {1, 1, 1, 0, 0, -1}};
        for (int[] b : bad) {
            no("seek" + Arrays.toString(b), x.seek(b[0], b[1], b[2], b[3], b[4], b[5]));
        }
        due("chance, as ahead", x.chance(5, 20, false), 1);
        due("chance, as ahead", x.chance(6, 20, false), 0);
        yes("seek", x.seek(9, 9, 9, 0, 0, 0));
        // 3 ^ 12 rows, 73789 of them back at 0.
        due("chance, most rows", x.chance(12, 0, false), 457652);
        due("chance, most rows, lower", x.chance(12, 0, true), 531441);
        yes("seek", x.seek(9, 8, 9, 0, 0, 0));
        due("chance, most, lower", x.chance(1, 20, true), 1);
        due("chance, odd weights", x.chance(1, 0, false), 9);
        due("chance, odd weights, lower", x.chance(1, 0, true), 13);
    }

    /** 29. */
    private static void detours() {
        TunnelBook x = new TunnelBook();
        due("detour, least", x.detour(4, 0, false), 0);
        due("detour, greatest", x.detour(4, 0, true), 1 + 2 + 1 + 0);
        due("detour from aside", x.detour(3, 2, false), 1 + 0 + 0);
        due("detour from aside, greatest", x.detour(3, 2, true), 2 + 1 + 0);
        due("detour, none", x.detour(3, 4, false), NONE);
        due("detour, none", x.detour(3, -4, true), NONE);
        due("detour, just", x.detour(20, -20, true), 190);
        // 21 .. 30 and 29 .. 0.
        due("detour, longest", x.detour(40, 20, true), 690);
        yes("seek", x.seek(0, 0, 1, 0, 0, 5));
        due("detour, right alone", x.detour(3, 1, true), 2 + 3 + 4);
        due("detour, right alone, least", x.detour(3, -2, false), 1 + 0 + 1);
        due("detour, too wide", x.detour(3, 3, true), NONE);
        yes("seek", x.seek(1, 0, 1, 40, 2, 0));
        due("detour, pulled, greatest", x.detour(3, 5, true), 4 + 3 + 0);
        due("detour, pulled, least", x.detour(3, 5, false), 2 + 0 + 0);
        due("detour, pulled from the other side", x.detour(3, -4, true), 3 + 2 + 0);
        due("detour, pulled too late", x.detour(3, 20, true), NONE);
        yes("seek", x.seek(1, 1, 1, 40, 3, 20));
        due("detour, from farthest", x.detour(1, 20, false), 16);
        due("detour, from beyond", x.detour(1, 21, false), NONE);
        due("detour, from beyond", x.detour(1, -21, false), NONE);
        due("detour, 0 ahead", x.detour(0, 0, true), NONE);
        due("detour, 41 ahead", x.detour(41, 0, true), NONE);
        due("detour, 21 off", x.detour(1, 21, true), NONE);
        due("detour, -21 off", x.detour(1, -21, true), NONE);
    }

    /** 30 to 34. */
    private static void flows() {
        TunnelBook x = withStations(3);
        due("flow, no pegs", x.flow(0, 0, 0, false), NONE);
        due("narrow, no pegs", x.narrow(0, 0, 0), NONE);
        x.reach(0, 1000, 2000, 1, 10, 1000, 1);
        x.reach(0, 1000, 1000, 1, 10, 500, 2);
        x.sight(2, 0, 1, -4, -2);
        x.sight(2, 1, 2, -7, -7);
        due("flow without mouth", x.flow(0, 0, 0, false), NONE);
        x.mouth(0, 0);
        // The first: thousandths 1 and 4, classes 1 and 3, 100 and 300; the second: 7, class 4, 200.
        due("flow", x.flow(0, 0, 0, false), 100);
        due("flow, greatest", x.flow(0, 0, 0, true), 200);
        due("narrow", x.narrow(0, 0, 0), 1);
        yes("table", x.table(1, 20));
        due("narrow, alike", x.narrow(0, 0, 0), 1);
        due("flow, alike", x.flow(0, 0, 0, false), 200);
        yes("table", x.table(1, 1000));
        due("narrow, the second", x.narrow(0, 0, 0), 2);
        yes("table", x.table(4, 0));
        due("flow, none", x.flow(0, 0, 0, true), 0);
        no("table, class 10", x.table(10, 0));
        no("table, class -1", x.table(-1, 0));
        no("table, 1001", x.table(0, 1001));
        no("table, -1", x.table(0, -1));
        due("about table", x.about(24), 0);
        due("about table", x.about(20), 0);
        due("flow, gallery 2", x.flow(2, 0, 0, true), NONE);
        due("flow, gallery -1", x.flow(-1, 0, 0, true), NONE);
        due("flow, year -1", x.flow(0, -1, 0, true), NONE);
        due("flow, year 5001", x.flow(0, 5001, 0, true), NONE);
        due("flow, year 5000", x.flow(0, 5000, 0, true), 0);
        due("flow, day -1", x.flow(0, 0, -1, true), NONE);
        due("flow, day 10000", x.flow(0, 0, 10000, true), NONE);
        due("narrow, year 5001", x.narrow(0, 5001, 0), NONE);
        due("narrow, day -1", x.narrow(0, 0, -1), NONE);
        due("narrow, gallery 1", x.narrow(1, 0, 0), NONE);
        x.days(1);
        x.sight(2, 0, 2, 0, 0);
        due("flow, not closed", x.flow(0, 0, 1, true), NONE);
        due("narrow, not closed", x.narrow(0, 0, 1), NONE);
        due("flow, known ahead", x.flow(0, 0, 0, true), 0);
        x.reach(0, 1000, 1000, 1, 10, 500, NONE);
        due("flow, a station lacks", x.flow(0, 0, 0, true), NONE);

        x = withStations(2);
        x.reach(1, 1000, 1000, 1, 10, 1000, 1);
        x.mouth(1, 0);
        due("flow, no bound", x.flow(1, 0, 0, true), NONE);
        x.mouth(1, 1);
        due("flow, no fall", x.flow(1, 0, 0, true), 0);
        yes("table", x.table(0, 7));
        due("flow, level", x.flow(1, 0, 0, true), 70);
        x.mouth(1, 0);
        x.sight(2, 0, 1, 1, 5);
        due("flow, uphill", x.flow(1, 0, 0, true), 70);
    }

    private static void falls(int fall, int low, int high, int least, int greatest) {
        TunnelBook x = withStations(1);
        x.sight(2, 0, 1, -fall, -fall);
        x.reach(0, low, high, 1, 10, 1000, 1);
        x.mouth(0, 0);
        due("flow, fall " + fall + " of " + high, x.flow(0, 0, 0, false), 100 * least);
        due("flow, fall " + fall + " of " + low, x.flow(0, 0, 0, true), 100 * greatest);
    }

    /** 33: classes. */
    private static void classes() {
        falls(1, 1000, 1001, 0, 1);
        falls(1, 1, 1000, 1, 9);
        falls(2, 1000, 1001, 1, 2);
        falls(4, 1000, 1001, 2, 3);
        falls(16, 1000, 1001, 8, 9);
        falls(17, 1000, 1000, 9, 9);
        falls(1000, 1000, 1000, 9, 9);
        falls(1000000, 1, 1000000, 9, 9);
        falls(-1000, 1000, 1000, 0, 0);
    }

    /** 31 and 32. */
    private static void limeAndRepairs() {
        TunnelBook x = withStations(2);
        x.sight(2, 0, 1, -100, -100);
        x.sight(2, 1, 2, -100, -100);
        x.reach(0, 1000, 1000, 1, 10, 1000, 1);
        x.reach(0, 1000, 1000, 1, 10, 2000, 2);
        x.mouth(0, 0);
        x.table(9, 100);
        no("lime 1001", x.lime(1001));
        no("lime -1", x.lime(-1));
        yes("lime 0", x.lime(0));
        yes("lime 3", x.lime(3));
        due("about lime", x.about(9), 3);
        due("flow, cut lime", x.flow(0, 33, 0, false), 1000);
        due("flow, a mm on each side", x.flow(0, 34, 0, false), 998);
        yes("lime 1000", x.lime(1000));
        due("flow, lime", x.flow(0, 10, 0, false), 800);
        due("flow, nearly closed", x.flow(0, 49, 0, false), 20);
        due("flow, closed up", x.flow(0, 50, 0, false), 0);
        due("flow, long closed up", x.flow(0, 5000, 0, false), 0);
        due("repair", x.repair(0, 1, 40), 1);
        due("flow, cut anew", x.flow(0, 60, 0, false), 600);
        due("flow in the year itself", x.flow(0, 40, 0, false), 1000);
        due("narrow, cut anew", x.narrow(0, 60, 0), 1);
        due("narrow, the other", x.narrow(0, 95, 0), 1);
        due("flow ahead of it", x.flow(0, 39, 0, false), 220);
        x.days(5);
        due("repair told later, of an earlier year", x.repair(0, 1, 20), 2);
        due("flow, the latest counts", x.flow(0, 60, 5, false), 600);
        due("flow, between both", x.flow(0, 30, 5, false), 800);
        due("flow, between both, known ahead", x.flow(0, 30, 4, false), 400);
        due("repair, peg 2", x.repair(0, 2, 5000), 3);
        due("repair, peg 0", x.repair(0, 0, 1), NONE);
        due("repair, peg 3", x.repair(0, 3, 1), NONE);
        due("repair, gallery 1", x.repair(1, 1, 1), NONE);
        due("repair, gallery 2", x.repair(2, 1, 1), NONE);
        due("repair, year -1", x.repair(0, 1, -1), NONE);
        due("repair, year 5001", x.repair(0, 1, 5001), NONE);
        x.reach(1, 1000, 1000, 1, 10, 1000, 1);
        for (int i = 4; i <= 30; i++) {
            due("repair", x.repair(i % 2, 1, 0), i);
        }
        due("repair 31", x.repair(0, 1, 0), NONE);
        due("repair 31 of the other", x.repair(1, 1, 0), NONE);
        due("about repairs", x.about(8), 30);
    }

    public static void main(String[] args) {
        aNewObject();
        theClock();
        stations();
        sights();
        closedAxes();
        spansAndGaps();
        blamedSights();
        reaches();
        marks();
        digging();
        lamps();
        theUnit();
        theTape();
        texts();
        replacing();
        tools();
        runs();
        meetings();
        chances();
        detours();
        flows();
        classes();
        limeAndRepairs();
        System.out.println("PromiseTest: " + (wrong == 0 ? "all as due" : wrong + " wrong"));
        System.exit(wrong == 0 ? 0 : 1);
    }
}
