/** Galleries, pegs, marks, lamps and the unit: a test for each sentence that names an edge. */
public final class DigEdgesTest extends Edges {
    private static void galleries() {
        says("GALLERIES 0 and 1; NONE, false for others");
        TunnelBook x = withStations(1);
        for (int g = 0; g <= 1; g++) {
            due("reach in " + g, x.reach(g, 10, 10, 1, 10, 500, 1), 1);
            yes("mouth of " + g, x.mouth(g, 0));
            due("mark in " + g, x.mark(g, 0, 3, 3), g + 1);
            due("when in " + g, x.when(g, 0, false), 3);
            due("between in " + g, x.between(g, 0, 1, false), 1);
            due("lamps in " + g, x.lamps(g, 1, 1, 10, 10), 1);
        }
        for (int g : new int[] {-1, 2, MIN, MAX}) {
            due("reach in " + g, x.reach(g, 10, 10, 1, 10, 500, 1), NONE);
            no("mouth of " + g, x.mouth(g, 0));
            due("mark in " + g, x.mark(g, 0, 3, 3), NONE);
            due("when in " + g, x.when(g, 0, false), NONE);
            due("between in " + g, x.between(g, 0, 1, false), NONE);
            due("lamps in " + g, x.lamps(g, 1, 1, 10, 10), NONE);
        }
        due("about(3)", x.about(3), 2);
        due("about(4)", x.about(4), 2);
        due("about(5)", x.about(5), 2);
    }

    private static void mostPegs() {
        says("PEGS 0 .. 19; reach: NONE if there are 20 PEGS");
        TunnelBook x = new TunnelBook();
        for (int i = 1; i <= 19; i++) {
            due("when of a peg not there yet", x.when(1, i, false), NONE);
            due("reach", x.reach(1, 1, 1, 1, 1, 100, NONE), i);
            due("about(4)", x.about(4), i + 1);
        }
        due("the 20th reach", x.reach(1, 1, 1, 1, 1, 100, NONE), NONE);
        due("about(4) as ahead", x.about(4), 20);
        due("mark at 19", x.mark(1, 19, 50, 60), 1);
        due("mark at 20", x.mark(1, 20, 50, 60), NONE);
        due("when of 19", x.when(1, 19, false), 50);
        due("when of 20", x.when(1, 20, false), NONE);
        due("between 0 and 19", x.between(1, 0, 19, true), 19);
        due("between 18 and 19", x.between(1, 18, 19, true), 1);
        due("between 19 and 20", x.between(1, 19, 20, true), NONE);
        due("lamps at 19", x.lamps(1, 19, 1, 1, 1), 1);
        due("lamps at 20", x.lamps(1, 20, 1, 1, 1), NONE);
        due("the other gallery", x.reach(0, 1, 1, 1, 1, 100, NONE), 1);
        due("about(3)", x.about(3), 2);
    }

    private static void pegZero() {
        says("PEG 0, there from the first REACH on; about: 0 without REACHES");
        TunnelBook x = withStations(1);
        due("about(3)", x.about(3), 0);
        no("mouth ahead of it", x.mouth(0, 1));
        due("mark ahead of it", x.mark(0, 0, 0, 20000), NONE);
        due("when ahead of it", x.when(0, 0, false), NONE);
        due("a reach that is refused", x.reach(0, 0, 1, 1, 1, 100, 0), NONE);
        due("about(3) as ahead", x.about(3), 0);
        due("when as ahead", x.when(0, 0, false), NONE);
        due("the first reach", x.reach(0, 1, 1, 1, 1, 100, 0), 1);
        due("about(3)", x.about(3), 2);
        due("about(4)", x.about(4), 0);
        yes("mouth", x.mouth(0, 1));
        due("mark", x.mark(0, 0, 0, 20000), 1);
        due("when", x.when(0, 0, false), 0);
        no("mouth of the other", x.mouth(1, 1));
        due("when of the other", x.when(1, 0, false), NONE);
    }

    private static int reachOf(int low, int high, int rateLow, int rateHigh, int width, int station) {
        return withStations(2).reach(0, low, high, rateLow, rateHigh, width, station);
    }

    private static void lengths() {
        says("its length from LOW to HIGH (1 .. 1000000 mm)");
        due("the least", reachOf(1, 1, 1, 1, 100, NONE), 1);
        due("the greatest", reachOf(1000000, 1000000, 1, 1, 100, NONE), 1);
        due("the widest", reachOf(1, 1000000, 1, 1, 100, NONE), 1);
        int[][] others = {{0, 1}, {0, 0}, {-1, 1}, {1, 1000001}, {1000001, 1000001}, {2, 1}, {1000000, 999999},
            {MIN, 1}, {1, MAX}, {MIN, MAX}};
        for (int[] o : others) {
            due("reach of " + o[0] + " to " + o[1], reachOf(o[0], o[1], 1, 1, 100, NONE), NONE);
        }
    }

    private static void rates() {
        says("RATE from LOW to HIGH (1 .. 10000 mm a DAY)");
        due("the least", reachOf(9, 9, 1, 1, 100, NONE), 1);
        due("the greatest", reachOf(9, 9, 10000, 10000, 100, NONE), 1);
        due("the widest", reachOf(9, 9, 1, 10000, 100, NONE), 1);
        int[][] others = {{0, 1}, {0, 0}, {-1, 1}, {1, 10001}, {10001, 10001}, {2, 1}, {10000, 9999}, {MIN, 1},
            {1, MAX}, {MIN, MAX}};
        for (int[] o : others) {
            due("reach at " + o[0] + " to " + o[1], reachOf(9, 9, o[0], o[1], 100, NONE), NONE);
        }
    }

    private static void widths() {
        says("WIDTH (100 .. 5000 mm)");
        due("the least", reachOf(9, 9, 1, 1, 100, NONE), 1);
        due("the greatest", reachOf(9, 9, 1, 1, 5000, NONE), 1);
        for (int w : new int[] {99, 5001, 0, -100, MIN, MAX}) {
            due("reach " + w + " wide", reachOf(9, 9, 1, 1, w, NONE), NONE);
        }
    }

    private static void endStations() {
        says("the STATION of the PEG at its end (NONE: none)");
        due("none", reachOf(9, 9, 1, 1, 100, NONE), 1);
        due("the first", reachOf(9, 9, 1, 1, 100, 0), 1);
        due("the last", reachOf(9, 9, 1, 1, 100, 2), 1);
        for (int s : new int[] {-2, 3, 24, MIN, MAX, FREE}) {
            due("reach to " + s, reachOf(9, 9, 1, 1, 100, s), NONE);
        }
    }

    private static void mouths() {
        says("The STATION of PEG 0: true. False for others");
        TunnelBook x = withStations(2);
        x.sight(2, 0, 1, -5, -5);
        x.sight(2, 1, 2, -2, -2);
        x.reach(0, 1000, 1000, 1, 1, 100, 2);
        yes("mouth at 0", x.mouth(0, 0));
        due("flow from 0", x.flow(0, 0, 0, false), 40);
        for (int s : new int[] {-1, 3, 24, MIN, MAX}) {
            no("mouth at " + s, x.mouth(0, s));
        }
        due("flow from 0 as ahead", x.flow(0, 0, 0, false), 40);
        yes("mouth at 1", x.mouth(0, 1));
        due("flow from 1", x.flow(0, 0, 0, false), 20);
        yes("mouth at the last", x.mouth(0, 2));
        due("flow from 2", x.flow(0, 0, 0, false), 0);
    }

    private static void dug(int low, int high, int rateLow, int rateHigh, int fewest, int most) {
        TunnelBook x = new TunnelBook();
        x.reach(0, low, high, rateLow, rateHigh, 100, NONE);
        String what = low + " .. " + high + " mm at " + rateLow + " .. " + rateHigh;
        due("days of " + what, x.between(0, 0, 1, false), fewest);
        due("most days of " + what, x.between(0, 0, 1, true), most);
        due("the last when 0 of " + what, x.when(0, 0, true), fewest == NONE ? NONE : 20000 - fewest);
        due("the first when 1 of " + what, x.when(0, 1, false), fewest);
    }

    private static void daysOfDigging() {
        says("from LOW / RATE's HIGH, rounded up, to HIGH / RATE's LOW, cut");
        dug(1, 1, 1, 1, 1, 1);
        dug(100, 100, 10, 10, 10, 10);
        dug(101, 110, 10, 10, 11, 11);
        dug(91, 109, 10, 10, 10, 10);
        dug(100, 100, 9, 11, 10, 11);
        dug(99, 101, 10, 11, 9, 10);
        dug(1, 1, 1, 10000, 1, 1);
        dug(9999, 10001, 10000, 10000, 1, 1);
        dug(1000000, 1000000, 50, 10000, 100, 20000);
        dug(999901, 1000000, 50, 10000, 100, 20000);
    }

    private static void noDaysOfDigging() {
        says("(none, if the one is above the other); BROKEN if there are none");
        dug(1, 1, 2, 2, NONE, NONE);
        dug(101, 109, 10, 10, NONE, NONE);
        dug(1, 9999, 10000, 10000, NONE, NONE);
        TunnelBook x = new TunnelBook();
        due("such a reach", x.reach(0, 101, 109, 10, 10, 100, NONE), 1);
        due("when 0", x.when(0, 0, false), NONE);
        due("when 1", x.when(0, 1, true), NONE);
        due("another reach", x.reach(0, 10, 10, 10, 10, 100, NONE), 2);
        due("when 2", x.when(0, 2, true), NONE);
        due("between 1 and 2", x.between(0, 1, 2, true), NONE);
        due("about(3)", x.about(3), 3);
    }

    private static void firstDays() {
        says("of PEG 0 any of 0 .. 20000; of PEGS from 0 to 20000");
        TunnelBook x = new TunnelBook();
        x.reach(0, 1, 1, 1, 1, 100, NONE);
        due("when 0", x.when(0, 0, false), 0);
        due("when 0, greatest", x.when(0, 0, true), 19999);
        due("when 1", x.when(0, 1, false), 1);
        due("when 1, greatest", x.when(0, 1, true), 20000);
        dug(20000, 20000, 1, 1, 20000, 20000);
        dug(20001, 20001, 1, 1, NONE, NONE);
        dug(1000000, 1000000, 1, 1, NONE, NONE);
        dug(1, 1000000, 1, 10000, 1, 20000);
        x.reach(1, 19999, 19999, 1, 1, 100, NONE);
        x.reach(1, 1, 1, 1, 1, 100, NONE);
        due("when 2 of all days", x.when(1, 2, false), 20000);
        due("when 0 of all days", x.when(1, 0, true), 0);
        x.reach(1, 1, 1, 1, 1, 100, NONE);
        due("when 0, a day beyond", x.when(1, 0, true), NONE);
        due("between, a day beyond", x.between(1, 0, 1, true), NONE);
    }

    private static void markEnds() {
        says("A MARK at a PEG: its DAY is from one to one (0 .. 20000)");
        TunnelBook x = new TunnelBook();
        x.reach(0, 1, 20000, 1, 1, 100, NONE);
        int[][] others = {{-1, 0}, {-1, -1}, {20000, 20001}, {20001, 20001}, {6, 5}, {20000, 19999}, {20000, 0},
            {MIN, MAX}, {MIN, 0}, {0, MAX}};
        for (int[] o : others) {
            due("mark from " + o[0] + " to " + o[1], x.mark(0, 1, o[0], o[1]), NONE);
        }
        due("about(5)", x.about(5), 0);
        due("when 1 as ahead", x.when(0, 1, false), 1);
        due("the widest", x.mark(0, 1, 0, 20000), 1);
        due("when 1 as ahead", x.when(0, 1, true), 20000);
        due("the last", x.mark(0, 1, 20000, 20000), 2);
        due("when 1", x.when(0, 1, false), 20000);
        due("the first", x.mark(0, 0, 0, 0), 3);
        due("when 0", x.when(0, 0, true), 0);
    }

    private static void markedPegs() {
        says("mark at a PEG; NONE for others");
        TunnelBook x = new TunnelBook();
        x.reach(0, 1, 1, 1, 1, 100, NONE);
        for (int p : new int[] {-1, 2, 19, 20, MIN, MAX}) {
            due("mark at " + p, x.mark(0, p, 5, 5), NONE);
            due("when of " + p, x.when(0, p, false), NONE);
        }
        due("about(5)", x.about(5), 0);
        due("mark at 1", x.mark(0, 1, 5, 5), 1);
        due("mark at 0", x.mark(0, 0, 4, 4), 2);
    }

    private static void mostMarks() {
        says("how many there are (40 at most, of both); several may be at one");
        TunnelBook x = new TunnelBook();
        x.reach(0, 1, 1, 1, 1, 100, NONE);
        x.reach(1, 1, 1, 1, 1, 100, NONE);
        for (int i = 1; i <= 39; i++) {
            due("mark", x.mark(0, 1, i, 100 - i), i);
            due("when by it", x.when(0, 1, true), 100 - i);
        }
        due("the 40th", x.mark(1, 0, 7, 7), 40);
        due("the 41st", x.mark(1, 0, 8, 8), NONE);
        due("the 41st of the other", x.mark(0, 0, 8, 8), NONE);
        due("about(5)", x.about(5), 40);
        due("when by the 40th", x.when(1, 0, true), 7);
        due("when by the 39th", x.when(0, 1, false), 39);
    }

    private static void brokenMarks() {
        says("BROKEN if there are none");
        // 5 to 12 days of digging.
        int[][] marks = {{14, 14, 0}, {15, 15, 1}, {22, 22, 1}, {23, 23, 0}, {0, 15, 1}, {22, 99, 1}, {0, 14, 0},
            {23, 20000, 0}};
        for (int[] m : marks) {
            TunnelBook x = new TunnelBook();
            x.reach(0, 100, 120, 10, 20, 100, NONE);
            x.reach(1, 100, 120, 10, 20, 100, NONE);
            x.mark(0, 0, 10, 10);
            x.mark(0, 1, m[0], m[1]);
            String what = " by a mark from " + m[0] + " to " + m[1];
            boolean holds = m[2] == 1;
            due("when 0" + what, x.when(0, 0, false), holds ? 10 : NONE);
            due("when 1" + what, x.when(0, 1, false), holds ? Math.max(15, m[0]) : NONE);
            due("when 1, greatest," + what, x.when(0, 1, true), holds ? Math.min(22, m[1]) : NONE);
            due("between" + what, x.between(0, 0, 1, true), holds ? Math.min(22, m[1]) - 10 : NONE);
            due("when in the other gallery" + what, x.when(1, 1, false), 5);
        }
    }

    private static void marksOfOnePeg() {
        says("all MARKS hold");
        TunnelBook x = new TunnelBook();
        x.reach(0, 1, 9, 1, 1, 100, NONE);
        x.mark(0, 1, 10, 20);
        x.mark(0, 1, 20, 30);
        due("one day in both", x.when(0, 1, false), 20);
        due("one day in both, greatest", x.when(0, 1, true), 20);
        due("the peg ahead", x.when(0, 0, false), 11);
        due("the peg ahead, greatest", x.when(0, 0, true), 19);
        x.mark(0, 1, 21, 30);
        due("none in all", x.when(0, 1, true), NONE);
        due("another while BROKEN is told too", x.mark(0, 0, 5, 5), 4);
        due("one that holds by itself", x.mark(0, 1, 0, 20000), 5);
        due("about(5)", x.about(5), 5);
        due("BROKEN still", x.when(0, 0, false), NONE);
        TunnelBook y = new TunnelBook();
        y.reach(0, 1, 9, 1, 1, 100, NONE);
        due("a mark", y.mark(0, 0, 10, 20), 1);
        due("a mark apart from it is told too", y.mark(0, 0, 21, 22), 2);
        due("about(5)", y.about(5), 2);
        due("BROKEN by both", y.when(0, 1, false), NONE);
        due("a REACH while BROKEN is told too", y.reach(0, 1, 1, 1, 1, 100, NONE), 2);
    }

    private static void betweenPegs() {
        says("two PEGS of a GALLERY, the first one ahead; NONE likewise");
        TunnelBook x = new TunnelBook();
        x.reach(0, 10, 20, 10, 10, 100, NONE);
        x.reach(0, 30, 30, 10, 10, 100, NONE);
        due("0 and 1", x.between(0, 0, 1, true), 2);
        due("1 and 2", x.between(0, 1, 2, true), 3);
        due("0 and 2", x.between(0, 0, 2, false), 4);
        due("0 and 2, greatest", x.between(0, 0, 2, true), 5);
        int[][] others = {{0, 0}, {1, 1}, {2, 2}, {1, 0}, {2, 1}, {2, 0}, {-1, 0}, {-1, 2}, {0, 3}, {2, 3}, {3, 4},
            {MIN, MAX}, {0, MAX}, {MIN, 2}};
        for (int[] o : others) {
            due("between " + o[0] + " and " + o[1], x.between(0, o[0], o[1], true), NONE);
        }
        due("between of an empty gallery", x.between(1, 0, 1, true), NONE);
    }

    private static void betweenMarks() {
        says("over all DAYS by which MARKS hold");
        TunnelBook x = new TunnelBook();
        x.reach(0, 10, 100, 10, 10, 100, NONE);
        x.reach(0, 10, 100, 10, 10, 100, NONE);
        x.mark(0, 0, 100, 110);
        x.mark(0, 2, 103, 104);
        due("0 and 1", x.between(0, 0, 1, false), 1);
        due("0 and 1, greatest", x.between(0, 0, 1, true), 3);
        due("0 and 2", x.between(0, 0, 2, false), 2);
        due("0 and 2, greatest", x.between(0, 0, 2, true), 4);
        x.mark(0, 2, 104, 104);
        x.mark(0, 0, 100, 100);
        due("0 and 2, told by marks", x.between(0, 0, 2, false), 4);
    }

    private static void holes() {
        says("holes counted in a REACH (0 .. 9999); NONE for others");
        TunnelBook x = new TunnelBook();
        x.reach(0, 9999, 10000, 1, 10000, 100, NONE);
        due("0 holes", x.lamps(0, 1, 0, 1, 100000), 1);
        due("0 holes, near", x.lamps(0, 1, 0, 1, 9999), 0);
        due("9999 holes", x.lamps(0, 1, 9999, 1, 1), 1);
        due("9999 holes, far", x.lamps(0, 1, 9999, 2, 100000), 0);
        for (int h : new int[] {-1, 10000, MIN, MAX}) {
            due(h + " holes", x.lamps(0, 1, h, 1, 1), NONE);
        }
        for (int p : new int[] {-1, 0, 2, MIN, MAX}) {
            due("lamps at " + p, x.lamps(0, p, 1, 9999, 9999), NONE);
        }
    }

    private static void holeDistances() {
        says("how far apart they were cut (from LOW to HIGH, 1 .. 100000 mm)");
        TunnelBook x = new TunnelBook();
        x.reach(0, 100000, 100000, 1, 10000, 100, NONE);
        due("the greatest", x.lamps(0, 1, 1, 100000, 100000), 1);
        due("the widest", x.lamps(0, 1, 1, 1, 100000), 1);
        due("the least", x.lamps(0, 1, 1, 1, 1), 0);
        int[][] others = {{0, 1}, {0, 0}, {-1, 1}, {1, 100001}, {100001, 100001}, {2, 1}, {100000, 99999}, {MIN, 1},
            {1, MAX}, {MIN, MAX}};
        for (int[] o : others) {
            due("lamps " + o[0] + " to " + o[1] + " apart", x.lamps(0, 1, 1, o[0], o[1]), NONE);
        }
    }

    private static void holesAgree() {
        says("holes AGREE, if for some length of it and some distance d (both whole) length / d, cut, is their number");
        TunnelBook x = new TunnelBook();
        x.reach(0, 1000, 1009, 1, 100, 100, NONE);
        due("10 by 100", x.lamps(0, 1, 10, 100, 100), 1);
        due("9 by 100", x.lamps(0, 1, 9, 100, 100), 0);
        due("9 by 101", x.lamps(0, 1, 9, 101, 101), 1);
        due("11 by 91", x.lamps(0, 1, 11, 91, 91), 1);
        due("11 by 92", x.lamps(0, 1, 11, 92, 92), 0);
        due("10 by 92", x.lamps(0, 1, 10, 92, 92), 1);
        due("1 by 1009", x.lamps(0, 1, 1, 1009, 1009), 1);
        due("1 by 1010", x.lamps(0, 1, 1, 1010, 1010), 0);
        due("1 by 501", x.lamps(0, 1, 1, 501, 501), 1);
        due("1 by 500", x.lamps(0, 1, 1, 500, 500), 0);
        due("0 by 1001", x.lamps(0, 1, 0, 1001, 1001), 1);
        due("0 by 1000", x.lamps(0, 1, 0, 1000, 1000), 0);
        due("1009 by 1", x.lamps(0, 1, 1009, 1, 1), 1);
        due("1010 by 1", x.lamps(0, 1, 1010, 1, 1), 0);
        due("1000 by 1", x.lamps(0, 1, 1000, 1, 1), 1);
        due("999 by 1", x.lamps(0, 1, 999, 1, 1), 0);
        due("600, none", x.lamps(0, 1, 600, 1, 100000), 0);
    }

    private static void countEnds() {
        says("counts (1 .. 9999 units) of lengths from LOW to HIGH (1 .. 2000000 mm)");
        TunnelBook x = new TunnelBook();
        int[][] others = {{0, 1, 1}, {-1, 1, 1}, {10000, 1, 2000000}, {1, 0, 1}, {1, 0, 0}, {1, -1, 1},
            {1, 1, 2000001}, {1, 2000001, 2000001}, {1, 2, 1}, {1, 2000000, 1999999}, {MIN, 1, 1}, {MAX, 1, 1},
            {1, MIN, MAX}, {1, MIN, 1}, {1, 1, MAX}};
        for (int[] o : others) {
            due("count of " + o[0] + " from " + o[1] + " to " + o[2], x.count(o[0], o[1], o[2]), NONE);
        }
        due("about(6)", x.about(6), 0);
        due("unit", x.unit(false), NONE);
        due("the most units", x.count(9999, 1, 2000000), 1);
        due("unit", x.unit(false), 1);
        due("unit, greatest", x.unit(true), 200020);
        due("one unit", x.count(1, 1, 2000000), 2);
        due("unit", x.unit(false), 1000);
        TunnelBook y = new TunnelBook();
        due("the shortest", y.count(1, 1, 1), 1);
        due("unit of the shortest", y.unit(true), 1000);
        TunnelBook z = new TunnelBook();
        due("the longest", z.count(1, 2000000, 2000000), 1);
        due("unit of the longest", z.unit(false), 2000000000);
        due("unit of the longest, greatest", z.unit(true), 2000000000);
    }

    private static void mostCounts() {
        says("count: NONE if there are 30");
        TunnelBook x = new TunnelBook();
        for (int i = 1; i <= 30; i++) {
            due("count", x.count(1, i, 100 - i), i);
        }
        due("the 31st", x.count(1, 50, 50), NONE);
        due("about(6)", x.about(6), 30);
        due("unit", x.unit(false), 30000);
        due("unit, greatest", x.unit(true), 70000);
    }

    private static void wholeUnits() {
        says("the least and the greatest whole number by which each count times that is from 1000 LOW to 1000 HIGH");
        int[][] units = {{3, 1, 1, NONE, NONE}, {3, 1, 2, 334, 666}, {3, 3, 3, 1000, 1000}, {7, 2, 2, NONE, NONE},
            {1000, 1, 1, 1, 1}, {1001, 1, 1, NONE, NONE}, {999, 1, 1, NONE, NONE}, {2000, 1, 1, NONE, NONE},
            {2000, 1, 2, 1, 1}, {1999, 1, 2, 1, 1}, {9999, 9999, 9999, 1000, 1000}};
        for (int[] u : units) {
            TunnelBook x = new TunnelBook();
            String what = u[0] + " units from " + u[1] + " to " + u[2];
            due("count of " + what, x.count(u[0], u[1], u[2]), u[3] == NONE ? NONE : 1);
            due("unit of " + what, x.unit(false), u[3]);
            due("unit of " + what + ", greatest", x.unit(true), u[4]);
            due("about(6) of " + what, x.about(6), u[3] == NONE ? 0 : 1);
        }
    }

    private static void noUnitLeft() {
        says("count: NONE if no UNIT would be left: it isn't told");
        TunnelBook x = new TunnelBook();
        x.count(1, 10, 20);
        due("one above", x.count(1000, 20001, 30000), NONE);
        due("one below", x.count(1000, 1, 9999), NONE);
        due("about(6)", x.about(6), 1);
        due("unit as ahead", x.unit(false), 10000);
        due("unit as ahead, greatest", x.unit(true), 20000);
        due("at the upper edge", x.count(1000, 20000, 30000), 2);
        due("unit at the upper edge", x.unit(false), 20000);
        due("none left beside it", x.count(1, 1, 19), NONE);
        due("it again", x.count(1, 20, 20), 3);
        TunnelBook y = new TunnelBook();
        y.count(1, 10, 20);
        due("at the lower edge", y.count(1000, 1, 10000), 2);
        due("unit at the lower edge", y.unit(true), 10000);
    }

    public static void main(String[] args) {
        galleries();
        mostPegs();
        pegZero();
        lengths();
        rates();
        widths();
        endStations();
        mouths();
        daysOfDigging();
        noDaysOfDigging();
        firstDays();
        markEnds();
        markedPegs();
        mostMarks();
        brokenMarks();
        marksOfOnePeg();
        betweenPegs();
        betweenMarks();
        holes();
        holeDistances();
        holesAgree();
        countEnds();
        mostCounts();
        wholeUnits();
        noUnitLeft();
        finish("DigEdgesTest");
    }
}
