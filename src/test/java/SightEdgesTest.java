/** The clock, stations and sights: a test for each sentence that names an edge. */
public final class SightEdgesTest extends Edges {
    private static void theConstants() {
        says("NONE = -1, FREE = -2000000000");
        due("NONE", TunnelBook.NONE, -1);
        due("FREE", TunnelBook.FREE, -2000000000);
    }

    private static void newObject() {
        says("TunnelBook(): STATION 0 alone; empty GALLERIES; DAY 0");
        TunnelBook x = new TunnelBook();
        due("about(0)", x.about(0), 0);
        due("about(1)", x.about(1), 1);
        due("about(3)", x.about(3), 0);
        due("about(4)", x.about(4), 0);
        due("span of 0", x.span(0, 0, 0, true), 0);
        due("span of 1", x.span(0, 1, 0, true), FREE);
        due("when", x.when(0, 0, false), NONE);
        due("when", x.when(1, 0, false), NONE);
        due("the first station", x.station(), 1);
    }

    private static void lastCall() {
        says("An object is used for at most 512 calls");
        TunnelBook x = new TunnelBook();
        for (int call = 1; call <= 511; call++) {
            due("call " + call, x.days(1), call);
        }
        due("call 512", x.about(0), 511);
        TunnelBook y = withStations(23);
        for (int call = 24; call <= 510; call++) {
            y.sight(call % 3, call % 23, 23, 0, 100);
        }
        due("call 511", y.gap(1, 0, 22, 0, true), 100);
        due("call 512", y.about(2), 80);
    }

    private static void clockSteps() {
        says("The clock goes on n DAYS (1 .. 1000): it. NONE for others");
        TunnelBook x = new TunnelBook();
        due("days(1)", x.days(1), 1);
        due("days(1000)", x.days(1000), 1001);
        for (int n : new int[] {0, -1, 1001, MIN, MAX}) {
            due("days(" + n + ")", x.days(n), NONE);
        }
        due("about(0) as ahead", x.about(0), 1001);
    }

    private static void clockEnd() {
        says("days: NONE beyond 9999");
        TunnelBook x = new TunnelBook();
        for (int i = 0; i < 9; i++) {
            x.days(1000);
        }
        due("days(1000) from 9000", x.days(1000), NONE);
        due("about(0) as ahead", x.about(0), 9000);
        due("days(998)", x.days(998), 9998);
        due("days(2) from 9998", x.days(2), NONE);
        due("days(1) from 9998", x.days(1), 9999);
        due("days(1) from 9999", x.days(1), NONE);
        due("about(0) at the end", x.about(0), 9999);
    }

    private static void mostStations() {
        says("STATIONS 0 .. 23 (told one by one); station: NONE if there are 24");
        TunnelBook x = new TunnelBook();
        for (int i = 1; i <= 23; i++) {
            due("sight to one not told yet", x.sight(0, 0, i, 1, 1), NONE);
            due("span of one not told yet", x.span(0, i, 0, true), FREE);
            due("station()", x.station(), i);
            due("span of one told now", x.span(0, 0, 0, true), 0);
        }
        due("the 25th", x.station(), NONE);
        due("the 26th", x.station(), NONE);
        due("about(1)", x.about(1), 24);
        due("sight to 23", x.sight(0, 0, 23, 7, 7), 0);
        due("sight to 24", x.sight(0, 0, 24, 7, 7), NONE);
        due("sight from 24", x.sight(0, 24, 0, 7, 7), NONE);
        due("span of 23", x.span(0, 23, 0, true), 7);
        due("span of 24", x.span(0, 24, 0, true), FREE);
        due("gap to 24", x.gap(0, 0, 24, 0, true), FREE);
        due("gap from 24", x.gap(0, 24, 0, 0, true), FREE);
    }

    private static void toldStations() {
        says("a STATION is one that was told");
        TunnelBook x = withStations(1);
        x.sight(0, 0, 1, 7, 7);
        for (int s : new int[] {-1, 2, 24, MIN, MAX}) {
            due("sight from 0 to " + s, x.sight(0, 0, s, 0, 0), NONE);
            due("sight from " + s + " to 0", x.sight(0, s, 0, 0, 0), NONE);
            due("span of " + s, x.span(0, s, 0, false), FREE);
            due("gap from 0 to " + s, x.gap(0, 0, s, 0, false), FREE);
            due("gap from " + s + " to 0", x.gap(0, s, 0, 0, false), FREE);
            due("gap from " + s + " to itself", x.gap(0, s, s, 0, false), FREE);
        }
        due("about(2)", x.about(2), 1);
        due("gap from 0 to 1", x.gap(0, 0, 1, 0, false), 7);
    }

    private static void axes() {
        says("AXES 0 x, 1 y, 2 z");
        TunnelBook x = withStations(1);
        for (int axis = 0; axis <= 2; axis++) {
            due("sight on " + axis, x.sight(axis, 0, 1, axis + 5, axis + 5), axis);
        }
        for (int axis = 0; axis <= 2; axis++) {
            due("closed on " + axis, x.closed(axis, 0), 1);
            due("span on " + axis, x.span(axis, 1, 0, true), axis + 5);
            due("gap on " + axis, x.gap(axis, 1, 0, 0, true), -axis - 5);
        }
        for (int axis : new int[] {-1, 3, MIN, MAX}) {
            due("sight on " + axis, x.sight(axis, 0, 1, 0, 0), NONE);
            due("closed on " + axis, x.closed(axis, 0), NONE);
            due("span on " + axis, x.span(axis, 0, 0, true), FREE);
            due("gap on " + axis, x.gap(axis, 0, 0, 0, true), FREE);
            due("blamed on " + axis, x.blamed(axis, 0, 0), NONE);
        }
        due("about(2)", x.about(2), 3);
    }

    private static void stationZero() {
        says("STATION 0 is at 0 on each");
        TunnelBook x = withStations(1);
        x.sight(0, 0, 1, 5, 9);
        x.sight(1, 1, 0, 5, 9);
        for (int axis = 0; axis <= 2; axis++) {
            due("span of 0 on " + axis, x.span(axis, 0, 0, false), 0);
            due("span of 0 on " + axis + ", greatest", x.span(axis, 0, 0, true), 0);
        }
        due("span of 1 seen from 0", x.span(0, 1, 0, false), 5);
        due("span of 1 seen from 0, greatest", x.span(0, 1, 0, true), 9);
        due("span of 1 that sees 0", x.span(1, 1, 0, false), -9);
        due("span of 1 that sees 0, greatest", x.span(1, 1, 0, true), -5);
    }

    private static void mostSights() {
        says("SIGHTS (80 at most)");
        TunnelBook x = withStations(2);
        for (int i = 0; i < 79; i++) {
            due("sight " + i, x.sight(i % 3, 0, 1, -9, 9), i);
        }
        due("sight 79", x.sight(0, 1, 2, 4, 4), 79);
        due("the 81st on x", x.sight(0, 0, 1, 20, 20), NONE);
        due("the 81st on z", x.sight(2, 0, 2, 20, 20), NONE);
        due("about(2)", x.about(2), 80);
        due("closed as ahead", x.closed(0, 0), 1);
        due("span by the 80th", x.span(0, 2, 0, true), 13);
        due("span as ahead", x.span(2, 2, 0, true), FREE);
    }

    private static void twoStations() {
        says("from one STATION to another one; NONE for one and the same STATION");
        TunnelBook x = withStations(1);
        due("sight from 0 to 0", x.sight(0, 0, 0, 0, 0), NONE);
        due("sight from 1 to 1", x.sight(0, 1, 1, 0, 0), NONE);
        due("sight from 1 to 1 that can't be", x.sight(0, 1, 1, 5, 5), NONE);
        due("closed", x.closed(0, 0), 1);
        due("about(2)", x.about(2), 0);
        due("sight from 1 to 0", x.sight(0, 1, 0, 0, 0), 0);
    }

    private static void sightEnds() {
        says("from LOW to HIGH (each -1000000 .. 1000000)");
        TunnelBook x = withStations(1);
        due("the least", x.sight(0, 0, 1, -1000000, -1000000), 0);
        due("the greatest", x.sight(1, 0, 1, 1000000, 1000000), 1);
        due("the widest", x.sight(2, 0, 1, -1000000, 1000000), 2);
        int[][] others = {{-1000001, 0}, {-1000001, -1000001}, {0, 1000001}, {1000001, 1000001}, {MIN, 0}, {0, MAX},
            {MIN, MAX}, {MIN, MIN}, {MAX, MAX}};
        for (int[] o : others) {
            due("sight from " + o[0] + " to " + o[1], x.sight(0, 0, 1, o[0], o[1]), NONE);
        }
        due("about(2)", x.about(2), 3);
        due("span, the least", x.span(0, 1, 0, true), -1000000);
        due("span, the greatest", x.span(1, 1, 0, false), 1000000);
        due("span, the widest", x.span(2, 1, 0, false), -1000000);
        due("span, the widest, greatest", x.span(2, 1, 0, true), 1000000);
    }

    private static void sightOrder() {
        says("LOW not above");
        TunnelBook x = withStations(1);
        due("LOW as HIGH", x.sight(0, 0, 1, 3, 3), 0);
        due("LOW one below", x.sight(0, 0, 1, 2, 3), 1);
        int[][] others = {{4, 3}, {0, -1}, {1000000, 999999}, {-999999, -1000000}, {1000000, -1000000}};
        for (int[] o : others) {
            due("sight from " + o[0] + " to " + o[1], x.sight(0, 0, 1, o[0], o[1]), NONE);
        }
        due("about(2)", x.about(2), 2);
        due("closed", x.closed(0, 0), 1);
    }

    private static void toldDays() {
        says("As KNOWN on DAY k: those TOLD on k or ahead");
        TunnelBook x = withStations(1);
        x.sight(0, 0, 1, 0, 100);
        x.days(5);
        x.sight(0, 0, 1, 0, 50);
        due("known on 0", x.span(0, 1, 0, true), 100);
        due("known on 4", x.span(0, 1, 4, true), 100);
        due("known on 5", x.span(0, 1, 5, true), 50);
        due("known on 6", x.span(0, 1, 6, true), 50);
        x.days(1);
        x.sight(0, 0, 1, 60, 60);
        due("gap known on 5", x.gap(0, 1, 0, 5, false), -50);
        due("gap known on 6", x.gap(0, 1, 0, 6, false), FREE);
        due("closed known on 5", x.closed(0, 5), 1);
        due("closed known on 6", x.closed(0, 6), 0);
        due("blamed known on 5", x.blamed(0, 5, 0), NONE);
        due("blamed known on 6", x.blamed(0, 6, 0), 1);
    }

    private static void lastDay() {
        says("the DAY on which it was TOLD (0 .. 9999: the clock's then)");
        TunnelBook x = withStations(1);
        x.sight(0, 0, 1, 0, 100);
        for (int i = 0; i < 9; i++) {
            x.days(1000);
        }
        x.days(999);
        x.sight(0, 0, 1, 7, 7);
        due("known on 0", x.span(0, 1, 0, true), 100);
        due("known on 9998", x.span(0, 1, 9998, true), 100);
        due("known on 9999", x.span(0, 1, 9999, true), 7);
    }

    private static void knownOthers() {
        says("KNOWN on a DAY, 0 .. 9999; NONE, FREE for others");
        TunnelBook x = withStations(1);
        x.sight(0, 0, 1, 5, 5);
        x.sight(1, 0, 1, 5, 5);
        x.sight(1, 0, 1, 6, 6);
        due("closed on 9999", x.closed(0, 9999), 1);
        due("span on 9999", x.span(0, 1, 9999, true), 5);
        due("blamed on 9999", x.blamed(1, 9999, 0), 1);
        for (int k : new int[] {-1, 10000, MIN, MAX}) {
            due("closed on " + k, x.closed(0, k), NONE);
            due("span on " + k, x.span(0, 1, k, true), FREE);
            due("gap on " + k, x.gap(0, 0, 1, k, true), FREE);
            due("blamed on " + k, x.blamed(1, k, 0), NONE);
        }
    }

    private static void closedAtAll() {
        says("CLOSED if there are some");
        TunnelBook x = withStations(3);
        due("without sights", x.closed(0, 0), 1);
        x.sight(0, 0, 1, 5, 9);
        x.sight(0, 0, 1, 9, 12);
        due("one value in both", x.closed(0, 0), 1);
        due("that value", x.span(0, 1, 0, false), 9);
        due("that value, greatest", x.span(0, 1, 0, true), 9);
        x.sight(1, 0, 1, 5, 9);
        x.sight(1, 0, 1, 10, 12);
        due("none in both", x.closed(1, 0), 0);
        x.sight(2, 1, 2, 10, 11);
        x.sight(2, 2, 3, 10, 11);
        x.sight(2, 3, 1, -20, -20);
        due("just so in a round apart from 0", x.closed(2, 0), 1);
        due("the least of it", x.gap(2, 1, 2, 0, true), 10);
        x.sight(2, 3, 1, -19, -19);
        due("a mm short", x.closed(2, 0), 0);
    }

    private static void closedRound() {
        says("whole numbers for all STATIONS that all SIGHTS of it let be");
        TunnelBook x = withStations(23);
        for (int s = 0; s < 23; s++) {
            x.sight(0, s, s + 1, 1000000, 1000000);
        }
        due("a row", x.closed(0, 0), 1);
        due("its end", x.span(0, 23, 0, false), 23000000);
        due("its end back", x.gap(0, 23, 0, 0, true), -23000000);
        x.sight(0, 23, 0, -1000000, -1000000);
        due("a round that is far off", x.closed(0, 0), 0);
        for (int off = -1; off <= 1; off++) {
            TunnelBook y = withStations(23);
            for (int s = 22; s >= 0; s--) {
                y.sight(0, s + 1, s, -7, -7);
            }
            y.sight(0, 23, 0, -161 + off, -161 + off);
            due("a round of all STATIONS, " + off + " off", y.closed(0, 0), off == 0 ? 1 : 0);
        }
    }

    private static void unboundSpans() {
        says("SPAN: none, if it has no bound that way");
        TunnelBook x = withStations(4);
        x.sight(0, 0, 1, -1000000, 1000000);
        x.sight(0, 2, 3, 5, 5);
        for (int s = 2; s <= 4; s++) {
            due("span of " + s, x.span(0, s, 0, false), FREE);
            due("span of " + s + ", greatest", x.span(0, s, 0, true), FREE);
        }
        due("span of 1", x.span(0, 1, 0, false), -1000000);
        due("span of 1, greatest", x.span(0, 1, 0, true), 1000000);
        due("span of 1 on y", x.span(1, 1, 0, true), FREE);
        x.sight(0, 4, 1, 0, 0);
        due("span of 4", x.span(0, 4, 0, true), 1000000);
        x.sight(0, 3, 4, 0, 0);
        due("span of 2", x.span(0, 2, 0, false), -1000005);
    }

    private static void notClosedSpans() {
        says("Of one that isn't CLOSED there are no SPANS");
        TunnelBook x = withStations(4);
        x.sight(0, 0, 1, 5, 5);
        x.sight(1, 0, 1, 5, 5);
        x.days(1);
        x.sight(0, 2, 3, 1, 1);
        x.sight(0, 2, 3, 2, 2);
        for (int s = 0; s <= 4; s++) {
            due("span of " + s, x.span(0, s, 1, false), FREE);
            due("span of " + s + ", greatest", x.span(0, s, 1, true), FREE);
            due("gap of " + s, x.gap(0, s, s, 1, true), FREE);
        }
        due("gap", x.gap(0, 0, 1, 1, true), FREE);
        due("span on another axis", x.span(1, 1, 1, false), 5);
        due("span as known ahead", x.span(0, 1, 0, false), 5);
    }

    private static void gaps() {
        says("A GAP: the least and the greatest of the second's value less the first's, over all VALUES");
        TunnelBook x = withStations(4);
        x.sight(0, 0, 1, 0, 100);
        x.sight(0, 0, 2, 0, 100);
        x.sight(0, 1, 2, 10, 20);
        x.sight(0, 3, 4, -5, 7);
        due("gap 1 2", x.gap(0, 1, 2, 0, false), 10);
        due("gap 1 2, greatest", x.gap(0, 1, 2, 0, true), 20);
        due("gap 2 1", x.gap(0, 2, 1, 0, false), -20);
        due("gap 2 1, greatest", x.gap(0, 2, 1, 0, true), -10);
        due("gap 0 1, greatest", x.gap(0, 0, 1, 0, true), 90);
        due("gap 0 2, least", x.gap(0, 0, 2, 0, false), 10);
        due("gap apart from 0", x.gap(0, 3, 4, 0, false), -5);
        due("gap apart from 0, back", x.gap(0, 4, 3, 0, false), -7);
        due("gap of two that don't hang together", x.gap(0, 2, 3, 0, false), FREE);
        due("gap of two that don't hang together", x.gap(0, 3, 2, 0, true), FREE);
        for (int s = 0; s <= 4; s++) {
            due("gap of one", x.gap(0, s, s, 0, false), 0);
            due("gap of one, greatest", x.gap(0, s, s, 0, true), 0);
        }
    }

    private static void blamedOnes() {
        says("BLAMED: each SIGHT of it without which (all others kept) it would be CLOSED, if it isn't");
        TunnelBook x = withStations(3);
        x.sight(1, 0, 1, 1, 1);
        due("closed", x.blamed(1, 0, 0), NONE);
        due("without sights", x.blamed(0, 0, 0), NONE);
        x.sight(0, 0, 1, 1, 1);
        x.sight(0, 2, 3, 1, 1);
        x.sight(0, 0, 1, 2, 2);
        due("the first of two", x.blamed(0, 0, 0), 1);
        due("the second of two", x.blamed(0, 0, 1), 3);
        due("a third", x.blamed(0, 0, 2), NONE);
        x.sight(0, 0, 1, 1, 2);
        due("one that holds by each", x.blamed(0, 0, 2), NONE);
        x.sight(0, 0, 1, 2, 9);
        due("one alone", x.blamed(0, 0, 0), 1);
        due("no second", x.blamed(0, 0, 1), NONE);
        x.sight(0, 2, 3, 2, 2);
        due("two faults apart: none alone", x.blamed(0, 0, 0), NONE);
        due("closed", x.closed(0, 0), 0);
    }

    private static void blamedNumbers() {
        says("blamed: the i-th (from 0), by rising numbers; NONE: none such, others");
        TunnelBook x = withStations(2);
        for (int i = 0; i < 79; i++) {
            x.sight(i % 2, 0, 1, 5, 5);
        }
        x.sight(1, 0, 1, 6, 6);
        due("the 80th sight", x.blamed(1, 0, 0), 79);
        due("no second", x.blamed(1, 0, 1), NONE);
        for (int i : new int[] {-1, 79, 80, MIN, MAX}) {
            due("blamed " + i, x.blamed(1, 0, i), NONE);
        }
        due("the other axis", x.blamed(0, 0, 0), NONE);
        TunnelBook y = withStations(3);
        y.sight(0, 0, 1, 10, 10);
        y.sight(0, 1, 2, 10, 10);
        y.sight(0, 2, 0, -21, -21);
        for (int i = 0; i < 3; i++) {
            due("of a round, " + i, y.blamed(0, 0, i), i);
        }
        due("of a round, 3", y.blamed(0, 0, 3), NONE);
    }

    public static void main(String[] args) {
        theConstants();
        newObject();
        lastCall();
        clockSteps();
        clockEnd();
        mostStations();
        toldStations();
        axes();
        stationZero();
        mostSights();
        twoStations();
        sightEnds();
        sightOrder();
        toldDays();
        lastDay();
        knownOthers();
        closedAtAll();
        closedRound();
        unboundSpans();
        notClosedSpans();
        gaps();
        blamedOnes();
        blamedNumbers();
        finish("SightEdgesTest");
    }
}
