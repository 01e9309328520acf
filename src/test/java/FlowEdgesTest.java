/** Flow, lime, repairs and about: a test for each sentence that names an edge. */
public final class FlowEdgesTest extends Edges {
    /** One reach of 1000 mm, 1000 wide, from station 0 to 1, that falls so much. */
    private static TunnelBook falling(int least, int greatest, int low, int high) {
        TunnelBook x = withStations(2);
        x.sight(2, 1, 0, least, greatest);
        x.reach(0, low, high, 1, 10000, 1000, 1);
        x.mouth(0, 0);
        return x;
    }

    private static void flowIs(TunnelBook x, int year, int known, int least, int greatest) {
        due("flow(0, " + year + ", " + known + ", false)", x.flow(0, year, known, false), least);
        due("flow(0, " + year + ", " + known + ", true)", x.flow(0, year, known, true), greatest);
    }

    private static void noFlow(TunnelBook x, int gallery, int year, int known) {
        String what = "(" + gallery + ", " + year + ", " + known + ")";
        due("flow" + what, x.flow(gallery, year, known, false), NONE);
        due("greatest flow" + what, x.flow(gallery, year, known, true), NONE);
        due("narrow" + what, x.narrow(gallery, year, known), NONE);
    }

    private static void flowArguments() {
        says("YEARS 0 .. 5000; KNOWN 0 .. 9999; GALLERIES 0 and 1; flow, narrow: NONE for others");
        TunnelBook x = falling(4, 4, 1000, 1000);
        flowIs(x, 0, 0, 300, 300);
        flowIs(x, 5000, 9999, 300, 300);
        due("narrow in 5000", x.narrow(0, 5000, 9999), 1);
        for (int year : new int[] {-1, 5001, MIN, MAX}) {
            noFlow(x, 0, year, 0);
        }
        for (int known : new int[] {-1, 10000, MIN, MAX}) {
            noFlow(x, 0, 0, known);
        }
        for (int gallery : new int[] {-1, 1, 2, MIN, MAX}) {
            noFlow(x, gallery, 0, 0);
        }
        x.reach(1, 1000, 1000, 1, 1, 500, 1);
        x.mouth(1, 0);
        due("flow of 1", x.flow(1, 0, 0, false), 150);
        due("narrow of 1", x.narrow(1, 0, 0), 1);
    }

    private static void fewPegs() {
        says("flow: NONE with fewer than two PEGS");
        TunnelBook x = withStations(1);
        noFlow(x, 0, 0, 0);
        x.reach(0, 0, 0, 0, 0, 0, 0);
        noFlow(x, 0, 0, 0);
        x.reach(0, 1, 1, 1, 1, 100, 0);
        x.mouth(0, 0);
        due("with two", x.flow(0, 0, 0, true), 0);
        due("narrow with two", x.narrow(0, 0, 0), 1);
        noFlow(x, 1, 0, 0);
    }

    private static void lackingStations() {
        says("NONE, if a STATION lacks (PEG 0's STATION is told by mouth())");
        TunnelBook x = withStations(1);
        x.sight(2, 1, 0, 4, 4);
        x.reach(0, 1000, 1000, 1, 1, 1000, 1);
        noFlow(x, 0, 0, 0);
        x.mouth(0, 0);
        flowIs(x, 0, 0, 300, 300);
        x.reach(0, 1000, 1000, 1, 1, 1000, NONE);
        noFlow(x, 0, 0, 0);
        x.reach(0, 1000, 1000, 1, 1, 1000, 1);
        noFlow(x, 0, 0, 0);
        TunnelBook y = withStations(1);
        y.reach(0, 1000, 1000, 1, 1, 1000, NONE);
        y.mouth(0, 0);
        noFlow(y, 0, 0, 0);
    }

    private static void zNotClosed() {
        says("NONE, if z isn't CLOSED, or a GAP has no bound");
        TunnelBook x = falling(4, 4, 1000, 1000);
        x.sight(0, 0, 1, 1, 1);
        x.sight(0, 0, 1, 2, 2);
        flowIs(x, 0, 0, 300, 300);
        x.days(1);
        x.sight(2, 0, 2, 1, 1);
        flowIs(x, 0, 1, 300, 300);
        x.sight(2, 0, 2, 2, 2);
        noFlow(x, 0, 0, 1);
        noFlow(x, 0, 0, 9999);
        flowIs(x, 0, 0, 300, 300);
        TunnelBook y = withStations(2);
        y.reach(0, 1000, 1000, 1, 1, 1000, 1);
        y.mouth(0, 0);
        noFlow(y, 0, 0, 0);
        y.days(7);
        y.sight(2, 1, 0, 4, 4);
        noFlow(y, 0, 0, 6);
        flowIs(y, 0, 7, 300, 300);
        y.reach(0, 1000, 1000, 1, 1, 1000, 2);
        noFlow(y, 0, 0, 7);
        // Both pegs at one station: a gap of 0.
        TunnelBook z = withStations(2);
        z.reach(0, 1000, 1000, 1, 1, 1000, 2);
        z.mouth(0, 2);
        z.table(0, 7);
        flowIs(z, 0, 0, 70, 70);
    }

    private static void thousandths(int fall, int low, int high, int least, int greatest) {
        TunnelBook x = falling(fall, fall, low, high);
        flowIs(x, 0, 0, 100 * least, 100 * greatest);
    }

    private static void classes() {
        says("CLASS: 0 below 1; else 1 and thousandths / 2, cut, 9 at most");
        int[] due = {0, 1, 2, 2, 3, 3, 4, 4, 5, 5, 6, 6, 7, 7, 8, 8, 9, 9, 9, 9};
        for (int t = 0; t < due.length; t++) {
            thousandths(t, 1000, 1000, due[t], due[t]);
        }
        thousandths(-1, 1000, 1000, 0, 0);
        thousandths(-1, 1000000, 1000000, 0, 0);
        thousandths(-1000000, 1, 1, 0, 0);
        thousandths(1000000, 1, 1, 9, 9);
    }

    private static void fallsByLength() {
        says("the least FALL * 1000 / HIGH, cut down, the greatest FALL * 1000 / LOW, cut down");
        thousandths(1, 1000, 1001, 0, 1);
        thousandths(1, 1001, 1001, 0, 0);
        thousandths(1, 500, 501, 1, 2);
        thousandths(1, 501, 1000, 1, 1);
        thousandths(16, 1000, 1001, 8, 9);
        thousandths(16, 1001, 1001, 8, 8);
        thousandths(1000, 1000000, 1000000, 1, 1);
        thousandths(999, 1000000, 1000000, 0, 0);
        TunnelBook x = falling(-3, 3, 1000, 1000);
        flowIs(x, 0, 0, 0, 200);
        TunnelBook y = falling(1, 5, 500, 1000);
        flowIs(y, 0, 0, 100, 600);
        TunnelBook z = withStations(23);
        for (int s = 0; s < 23; s++) {
            z.sight(2, s + 1, s, 1000000, 1000000);
        }
        z.reach(0, 1, 1, 1, 1, 5000, 23);
        z.mouth(0, 0);
        flowIs(z, 0, 0, 4500, 4500);
        z.mouth(0, 23);
        flowIs(z, 0, 0, 0, 0);
    }

    /** Falls whose thousandths have more than 32 bits, and would be few, or below 0, in 32. */
    private static void steepFalls() {
        says("CLASS: 9 at most, 0 below 1, however steep a REACH falls or rises");
        for (int fall : new int[] {2147483, 2147484, 3000000, 4294967, 4294968, 8589935, 12884902, 21474837, 23000000}) {
            for (int length : new int[] {1, 2, 1000, 100000}) {
                TunnelBook x = withStations(23);
                for (int s = 0; s < 23; s++) {
                    int part = fall / 23 + (s < fall % 23 ? 1 : 0);
                    x.sight(2, s + 1, s, part, part);
                }
                x.reach(0, length, length, 1, 10000, 1000, 23);
                x.reach(1, length, length, 1, 10000, 1000, 0);
                x.mouth(0, 0);
                x.mouth(1, 23);
                due("fall of " + fall, x.gap(2, 23, 0, 0, true), fall);
                flowIs(x, 0, 0, 900, 900);
                due("rise of " + fall + " on " + length, x.flow(1, 0, 0, false), 0);
                due("rise of " + fall + " on " + length + ", greatest", x.flow(1, 0, 0, true), 0);
            }
        }
    }

    private static void tables() {
        says("TABLE of CLASSES (0 .. 1000 each; at first 10 CLASS); table: False for others");
        TunnelBook x = falling(1, 16, 1000, 1000);
        for (int c = 0; c <= 9; c++) {
            due("at first " + c, x.about(20 + c), 10 * c);
        }
        for (int c : new int[] {-1, 10, MIN, MAX}) {
            no("table of " + c, x.table(c, 5));
        }
        for (int v : new int[] {-1, 1001, MIN, MAX}) {
            no("table " + v, x.table(0, v));
            no("table " + v, x.table(9, v));
        }
        for (int c = 0; c <= 9; c++) {
            due("as ahead " + c, x.about(20 + c), 10 * c);
        }
        flowIs(x, 0, 0, 100, 900);
        yes("the least", x.table(9, 0));
        yes("the greatest", x.table(1, 1000));
        flowIs(x, 0, 0, 10000, 0);
        for (int c = 0; c <= 9; c++) {
            yes("table", x.table(c, 999 - c));
            due("about", x.about(20 + c), 999 - c);
        }
    }

    private static void cutFlow() {
        says("A REACH lets TABLE * WIDTH / 100, cut");
        TunnelBook x = withStations(1);
        x.reach(0, 1000, 1000, 1, 1, 101, 0);
        x.mouth(0, 0);
        int[][] cases = {{0, 0}, {1, 1}, {98, 98}, {99, 99}, {100, 101}, {199, 200}, {200, 202}, {1000, 1010}};
        for (int[] c : cases) {
            x.table(0, c[0]);
            flowIs(x, 0, 0, c[1], c[1]);
        }
        TunnelBook y = withStations(1);
        y.reach(0, 1000, 1000, 1, 1, 5000, 0);
        y.mouth(0, 0);
        y.table(0, 1000);
        flowIs(y, 0, 0, 50000, 50000);
    }

    private static void limes() {
        says("LIME: hundredths of a mm in a year on each side (0 .. 1000): true. False for others");
        TunnelBook x = falling(16, 16, 1000, 1000);
        due("at first", x.about(9), 0);
        flowIs(x, 5000, 0, 900, 900);
        x.table(9, 100);
        yes("the greatest", x.lime(1000));
        due("about(9)", x.about(9), 1000);
        for (int v : new int[] {-1, 1001, MIN, MAX}) {
            no("lime " + v, x.lime(v));
        }
        due("about(9) as ahead", x.about(9), 1000);
        flowIs(x, 1, 0, 980, 980);
        yes("the least", x.lime(0));
        flowIs(x, 5000, 0, 1000, 1000);
    }

    private static void openWidth() {
        says("WIDTH less twice (LIME * years / 100, cut), 0 at least");
        TunnelBook x = falling(16, 16, 1000, 1000);
        x.table(9, 100);
        x.lime(1);
        int[][] years = {{0, 1000}, {99, 1000}, {100, 998}, {199, 998}, {200, 996}, {5000, 900}};
        for (int[] y : years) {
            flowIs(x, y[0], 0, y[1], y[1]);
        }
        x.lime(1000);
        int[][] closing = {{49, 20}, {50, 0}, {51, 0}, {5000, 0}};
        for (int[] y : closing) {
            flowIs(x, y[0], 0, y[1], y[1]);
        }
        TunnelBook z = withStations(1);
        z.reach(0, 1000, 1000, 1, 1, 101, 0);
        z.mouth(0, 0);
        z.table(0, 100);
        z.lime(100);
        int[][] odd = {{49, 3}, {50, 1}, {51, 0}};
        for (int[] y : odd) {
            flowIs(z, y[0], 0, y[1], y[1]);
        }
    }

    private static void repairArguments() {
        says("A REPAIR of a REACH in a YEAR (0 .. 5000): how many there are. NONE for others");
        TunnelBook x = falling(16, 16, 1000, 1000);
        x.table(9, 100);
        x.lime(100);
        for (int g : new int[] {-1, 1, 2, MIN, MAX}) {
            due("repair in " + g, x.repair(g, 1, 5), NONE);
        }
        for (int p : new int[] {-1, 0, 2, 19, 20, MIN, MAX}) {
            due("repair at " + p, x.repair(0, p, 5), NONE);
        }
        for (int y : new int[] {-1, 5001, MIN, MAX}) {
            due("repair in the year " + y, x.repair(0, 1, y), NONE);
        }
        due("about(8)", x.about(8), 0);
        flowIs(x, 10, 0, 980, 980);
        due("in the first year", x.repair(0, 1, 0), 1);
        flowIs(x, 10, 0, 980, 980);
        due("in the last year", x.repair(0, 1, 5000), 2);
        flowIs(x, 5000, 0, 1000, 1000);
        flowIs(x, 10, 0, 980, 980);
        x.reach(0, 1000, 1000, 1, 1, 2000, 1);
        due("at the last peg", x.repair(0, 2, 10), 3);
        due("about(8)", x.about(8), 3);
    }

    private static void mostRepairs() {
        says("REPAIRS (30 at most)");
        TunnelBook x = falling(16, 16, 1000, 1000);
        x.reach(1, 1, 1, 1, 1, 100, 0);
        x.table(9, 100);
        x.lime(100);
        for (int i = 1; i <= 29; i++) {
            due("repair", x.repair(1, 1, i), i);
        }
        due("the 30th", x.repair(0, 1, 50), 30);
        due("the 31st", x.repair(0, 1, 90), NONE);
        due("the 31st of the other", x.repair(1, 1, 90), NONE);
        due("about(8)", x.about(8), 30);
        flowIs(x, 100, 0, 900, 900);
        TunnelBook y = falling(16, 16, 1000, 1000);
        y.table(9, 100);
        y.lime(100);
        for (int i = 1; i <= 30; i++) {
            due("repair of one", y.repair(0, 1, 10 * i), i);
            flowIs(y, 10 * i + 1, 0, 998, 998);
        }
        due("the 31st of one", y.repair(0, 1, 400), NONE);
    }

    private static void latestRepair() {
        says("LIME counts from the latest of them on (years ahead of it don't)");
        TunnelBook x = falling(16, 16, 1000, 1000);
        x.table(9, 100);
        x.lime(100);
        x.repair(0, 1, 80);
        x.repair(0, 1, 95);
        x.repair(0, 1, 90);
        int[][] years = {{79, 1000 - 158}, {80, 1000}, {81, 998}, {89, 982}, {90, 1000}, {94, 992}, {95, 1000},
            {96, 998}, {100, 990}, {595, 0}, {594, 2}};
        for (int[] y : years) {
            flowIs(x, y[0], 0, y[1], y[1]);
        }
        TunnelBook z = falling(16, 16, 1000, 1000);
        z.reach(0, 1000, 1000, 1, 1, 1000, 1);
        z.table(9, 100);
        z.table(0, 100);
        z.lime(100);
        z.repair(0, 1, 50);
        flowIs(z, 60, 0, 880, 880);
        due("narrow: the one that wasn't cut anew", z.narrow(0, 60, 0), 2);
        z.repair(0, 2, 51);
        flowIs(z, 60, 0, 980, 980);
        due("narrow: the one that was so earlier", z.narrow(0, 60, 0), 1);
    }

    private static void toldRepairs() {
        says("TOLD on a DAY; flow as KNOWN");
        TunnelBook x = falling(16, 16, 1000, 1000);
        x.table(9, 100);
        x.lime(100);
        x.days(5);
        x.repair(0, 1, 50);
        x.days(1);
        x.repair(0, 1, 60);
        x.days(1);
        x.repair(0, 1, 40);
        flowIs(x, 100, 4, 800, 800);
        flowIs(x, 100, 5, 900, 900);
        flowIs(x, 100, 6, 920, 920);
        flowIs(x, 100, 7, 920, 920);
        flowIs(x, 100, 9999, 920, 920);
        flowIs(x, 45, 6, 910, 910);
        flowIs(x, 45, 7, 990, 990);
        flowIs(x, 45, 0, 910, 910);
    }

    private static void leastReach() {
        says("The REACH (its end's PEG) that lets least by the least thousandths; of like ones the first");
        TunnelBook x = withStations(3);
        x.sight(2, 1, 0, 4, 16);
        x.sight(2, 2, 1, 4, 4);
        x.sight(2, 3, 2, 4, 4);
        x.reach(0, 1000, 1000, 1, 1, 1000, 1);
        x.mouth(0, 0);
        x.reach(0, 1000, 1000, 1, 1, 1000, 2);
        x.reach(0, 1000, 1000, 1, 1, 1000, 3);
        due("all alike", x.narrow(0, 0, 0), 1);
        flowIs(x, 0, 0, 300, 300);
        x.table(3, 91);
        due("by the least, not by the greatest", x.narrow(0, 0, 0), 1);
        flowIs(x, 0, 0, 910, 900);
        for (int i = 4; i <= 18; i++) {
            x.reach(0, 1000, 1000, 1, 1, 900, 3);
        }
        x.table(0, 200);
        due("of twenty pegs", x.narrow(0, 0, 0), 1);
        due("the last", x.reach(0, 1000, 1000, 1, 1, 100, 3), 19);
        due("narrow of the last", x.narrow(0, 0, 0), 19);
        flowIs(x, 0, 0, 200, 200);
        TunnelBook y = withStations(1);
        y.reach(0, 1, 1, 1, 1, 102, 0);
        y.mouth(0, 0);
        y.reach(0, 1, 1, 1, 1, 101, 0);
        y.reach(0, 1, 1, 1, 1, 100, 0);
        due("nothing flows: all alike", y.narrow(0, 0, 0), 1);
        y.table(0, 100);
        due("the third", y.narrow(0, 0, 0), 3);
        y.table(0, 99);
        due("cut alike: the second", y.narrow(0, 0, 0), 2);
    }

    private static void aboutNumbers() {
        says("about: 0 .. 10, 20 + c. NONE for others");
        TunnelBook x = new TunnelBook();
        int[] fresh = {0, 1, 0, 0, 0, 0, 0, 0, 0, 0, 0, NONE, NONE, NONE, NONE, NONE, NONE, NONE, NONE, NONE,
            0, 10, 20, 30, 40, 50, 60, 70, 80, 90, NONE};
        for (int what = 0; what < fresh.length; what++) {
            due("about(" + what + ")", x.about(what), fresh[what]);
        }
        for (int what : new int[] {-1, 31, 100, MIN, MAX}) {
            due("about(" + what + ")", x.about(what), NONE);
        }
    }

    private static void aboutAll() {
        says("about: the clock's DAY, STATIONS, SIGHTS, PEGS, MARKS, counts, WAYS (a set), REPAIRS, LIME, bytes, TABLE");
        TunnelBook x = new TunnelBook();
        for (int i = 0; i < 9; i++) {
            x.days(1000);
        }
        x.days(999);
        for (int i = 0; i < 23; i++) {
            x.station();
        }
        for (int i = 0; i < 80; i++) {
            x.sight(0, 0, 1, 0, 0);
        }
        for (int i = 0; i < 38; i++) {
            x.reach(i % 2, 1, 1, 1, 1, 100, 0);
        }
        for (int i = 0; i < 40; i++) {
            x.mark(i % 2, 0, 0, 9);
        }
        for (int i = 0; i < 30; i++) {
            x.count(1, 1, 1);
            x.repair(i % 2, 1, 0);
        }
        for (int w = 0; w < 6; w++) {
            x.way(w);
            due("about(7)", x.about(7), (2 << w) - 1);
        }
        x.lime(1000);
        for (int i = 0; i < 20; i++) {
            x.feed(0, 0, 0, 0, 0);
        }
        int[] full = {9999, 24, 80, 20, 20, 40, 30, 63, 30, 1000, 400};
        for (int what = 0; what < full.length; what++) {
            due("about(" + what + ")", x.about(what), full[what]);
        }
    }

    public static void main(String[] args) {
        flowArguments();
        fewPegs();
        lackingStations();
        zNotClosed();
        classes();
        fallsByLength();
        steepFalls();
        tables();
        cutFlow();
        limes();
        openWidth();
        repairArguments();
        mostRepairs();
        latestRepair();
        toldRepairs();
        leastReach();
        aboutNumbers();
        aboutAll();
        finish("FlowEdgesTest");
    }
}
