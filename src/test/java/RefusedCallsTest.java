import java.util.ArrayList;
import java.util.List;

/** What is refused changes nothing, nor does a question: all that can be asked is as ahead of it. */
public final class RefusedCallsTest extends Edges {
    private interface Call {
        long on(TunnelBook x);
    }

    private static final Call NOTHING = x -> 0;

    private static long bit(boolean b) {
        return b ? 1 : 0;
    }

    private static void loop(int n, Runnable r) {
        for (int i = 0; i < n; i++) {
            r.run();
        }
    }

    /** A book to which something of everything was told. */
    private static TunnelBook told() {
        TunnelBook x = withStations(2);
        x.sight(0, 0, 1, 10, 20);
        x.sight(1, 0, 1, -3, 3);
        x.sight(2, 1, 0, 4, 9);
        x.days(4);
        x.sight(0, 1, 2, 5, 5);
        x.sight(2, 2, 1, 2, 3);
        for (int g = 0; g <= 1; g++) {
            x.reach(g, 1000, 1200, 50, 100, 800, 1);
            x.mouth(g, 0);
        }
        x.reach(1, 400, 400, 50, 100, 600, 2);
        x.mark(0, 0, 10, 30);
        x.mark(1, 1, 20, 40);
        x.count(3, 100, 110);
        x.tools(6, 4, 9, 40, 5);
        Texts.way(x, 1, "line 10;turn 3;line 9;shaft;rise 70;");
        Texts.way(x, 3, "turn 1;repeat 3{line 2;poles;}");
        Texts.way(x, 4, "line 7 rise");
        for (int axis = 0; axis <= 2; axis++) {
            x.there(axis, -20000, 20000 + axis);
        }
        x.seek(1, 2, 3, 2, 1, 1);
        x.table(3, 33);
        x.lime(20);
        x.repair(0, 1, 50);
        x.days(1);
        x.repair(0, 1, 60);
        x.feed(0x72697365, 0x20353B20, 0x6C696E65, 0x20303B20, 0x20202020);
        x.end(17);
        return x;
    }

    private static void askNumbers(TunnelBook x, List<Long> seen) {
        for (int what = 0; what < 30; what++) {
            seen.add((long) x.about(what));
        }
        for (int axis = 0; axis <= 2; axis++) {
            for (int known = 3; known <= 5; known++) {
                seen.add((long) x.closed(axis, known));
                seen.add((long) x.gap(axis, 0, 1, known, false));
                seen.add((long) x.gap(axis, 0, 2, known, true));
            }
            seen.add((long) x.blamed(axis, 5, 0));
        }
        for (int g = 0; g <= 1; g++) {
            for (int peg = 0; peg <= 2; peg++) {
                seen.add((long) x.when(g, peg, false));
                seen.add((long) x.when(g, peg, true));
                seen.add((long) x.between(g, 0, peg, true));
                seen.add((long) x.lamps(g, peg, 10, 100, 110));
            }
            for (int known = 4; known <= 5; known++) {
                seen.add((long) x.flow(g, 80, known, false));
                seen.add((long) x.flow(g, 55, known, true));
                seen.add((long) x.narrow(g, 100, known));
            }
        }
        seen.add((long) x.unit(false));
        seen.add((long) x.unit(true));
    }

    private static void askRuns(TunnelBook x, List<Long> seen) {
        seen.add((long) x.fault(0));
        seen.add((long) x.fault(1));
        for (int w = 0; w <= 5; w++) {
            for (int what = 0; what <= 8; what++) {
                seen.add((long) x.run(w, 5, what));
            }
        }
        for (int axis = 0; axis <= 2; axis++) {
            seen.add((long) x.meeting(16, 0, 51, 1, axis, false));
            seen.add((long) x.meeting(16, 0, 51, 1, axis, true));
            seen.add((long) x.ways(0, 1, 4, 1, axis));
            seen.add((long) x.ways(0, 0, 4, 1, axis));
        }
        seen.add((long) x.fits(16, 1, 51, 1));
        for (int ahead = 1; ahead <= 4; ahead++) {
            seen.add(x.chance(ahead, 1, false));
            seen.add(x.chance(ahead, 1, true));
            seen.add((long) x.detour(ahead, -1, false));
            seen.add((long) x.detour(ahead, 1, true));
        }
    }

    /** What is told next shows what was kept but isn't answered by itself. */
    private static void askNext(TunnelBook x, List<Long> seen) {
        seen.add((long) x.way(2));
        seen.add((long) x.fault(0));
        seen.add((long) x.fault(1));
        seen.add((long) x.station());
        seen.add((long) x.sight(0, 0, 2, 90, 99));
        for (int i = 0; i <= 3; i++) {
            seen.add((long) x.blamed(0, 9, i));
        }
        seen.add((long) x.mark(0, 1, 0, 20000));
        seen.add((long) x.reach(0, 1, 1, 1, 1, 100, NONE));
        seen.add((long) x.count(1, 1, 2000));
        seen.add((long) x.repair(1, 1, 0));
        seen.add((long) x.days(1));
    }

    private static List<Long> picture(TunnelBook x) {
        List<Long> seen = new ArrayList<>();
        askNumbers(x, seen);
        askRuns(x, seen);
        askNext(x, seen);
        return seen;
    }

    private static void same(String name, Call ahead, long answer, Call call) {
        TunnelBook without = told();
        ahead.on(without);
        TunnelBook with = told();
        ahead.on(with);
        due(name, call.on(with), answer);
        due("all that is asked behind " + name, bit(picture(with).equals(picture(without))), 1);
    }

    private static void refused(String name, long answer, Call call) {
        same(name, NOTHING, answer, call);
    }

    private static void changes(String name, Call call) {
        TunnelBook with = told();
        call.on(with);
        due("something that is asked behind " + name, bit(picture(with).equals(picture(told()))), 0);
    }

    private static void whatIsTaken() {
        says("(what is taken changes something)");
        changes("days", x -> x.days(1));
        changes("station", x -> x.station());
        changes("sight", x -> x.sight(1, 0, 1, 0, 0));
        changes("reach", x -> x.reach(0, 9, 9, 1, 1, 100, NONE));
        changes("mouth", x -> bit(x.mouth(1, 1)));
        changes("mark", x -> x.mark(0, 1, 30, 31));
        changes("count", x -> x.count(1, 1, 1000));
        changes("feed", x -> x.feed(0, 0, 0, 0, 0));
        changes("end", x -> x.end(16));
        changes("way", x -> x.way(0));
        changes("tools", x -> bit(x.tools(6, 4, 9, 40, 6)));
        changes("there", x -> bit(x.there(2, 0, 0)));
        changes("seek", x -> bit(x.seek(1, 2, 3, 2, 2, 1)));
        changes("table", x -> bit(x.table(9, 8)));
        changes("repair", x -> x.repair(1, 2, 7));
        changes("lime", x -> bit(x.lime(19)));
    }

    private static void sightsRefused() {
        says("days, station, sight: refused");
        refused("days(0)", NONE, x -> x.days(0));
        refused("days(1001)", NONE, x -> x.days(1001));
        same("days(1) at 9999", x -> {
            loop(9, () -> x.days(1000));
            return x.days(994);
        }, NONE, x -> x.days(1));
        same("station, the 25th", x -> {
            loop(21, x::station);
            return 0;
        }, NONE, x -> x.station());
        refused("sight on axis 3", NONE, x -> x.sight(3, 0, 1, 50, 50));
        refused("sight of one STATION", NONE, x -> x.sight(1, 1, 1, 50, 50));
        refused("sight to a STATION not told", NONE, x -> x.sight(1, 0, 3, 50, 50));
        refused("sight, LOW above", NONE, x -> x.sight(1, 0, 1, 2, 1));
        refused("sight, LOW beyond", NONE, x -> x.sight(1, 0, 1, -1000001, 1));
        refused("sight, HIGH beyond", NONE, x -> x.sight(1, 0, 1, 2, 1000001));
        same("sight, the 81st", x -> {
            loop(75, () -> x.sight(1, 0, 1, -3, 3));
            return 0;
        }, NONE, x -> x.sight(1, 0, 1, 50, 50));
    }

    private static void digsRefused() {
        says("reach, mouth, mark, count: refused; count: it isn't told");
        refused("reach of gallery 2", NONE, x -> x.reach(2, 1, 1, 1, 1, 100, 0));
        refused("reach, length", NONE, x -> x.reach(0, 0, 1, 1, 1, 100, 0));
        refused("reach, rate", NONE, x -> x.reach(0, 1, 1, 2, 1, 100, 0));
        refused("reach, width", NONE, x -> x.reach(0, 1, 1, 1, 1, 99, 0));
        refused("reach, station", NONE, x -> x.reach(0, 1, 1, 1, 1, 100, 3));
        same("reach, the 20th", x -> {
            loop(17, () -> x.reach(1, 1, 1, 1, 1, 900, 1));
            return 0;
        }, NONE, x -> x.reach(1, 9, 9, 1, 1, 100, 1));
        refused("mouth, station", 0, x -> bit(x.mouth(0, 3)));
        refused("mouth, NONE", 0, x -> bit(x.mouth(1, NONE)));
        refused("mouth, gallery", 0, x -> bit(x.mouth(2, 1)));
        refused("mark, peg", NONE, x -> x.mark(0, 2, 0, 0));
        refused("mark, from above", NONE, x -> x.mark(0, 1, 31, 30));
        refused("mark, beyond", NONE, x -> x.mark(0, 1, 30, 20001));
        refused("mark, below", NONE, x -> x.mark(0, 1, -1, 25));
        same("mark, the 41st", x -> {
            loop(38, () -> x.mark(0, 1, 0, 20000));
            return 0;
        }, NONE, x -> x.mark(0, 1, 30, 31));
        refused("count, no unit left", NONE, x -> x.count(3, 111, 120));
        refused("count, units", NONE, x -> x.count(0, 100, 101));
        refused("count, LOW above", NONE, x -> x.count(3, 105, 104));
        refused("count, HIGH beyond", NONE, x -> x.count(3, 105, 2000001));
        same("count, the 31st", x -> {
            loop(29, () -> x.count(3, 100, 110));
            return 0;
        }, NONE, x -> x.count(3, 105, 106));
    }

    private static void textsRefused() {
        says("feed: none come; end: nothing is done; way: the former one stays, the tape stays");
        same("feed, beyond 400", x -> {
            loop(19, () -> x.feed(0x20202020, 0x20202020, 0x20202020, 0x20202020, 0x20202020));
            return x.end(381);
        }, NONE, x -> x.feed(0, 0, 0, 0, 0));
        refused("end(18) of 17", NONE, x -> x.end(18));
        refused("end(-1)", NONE, x -> x.end(-1));
        refused("end(17) of 17", 17, x -> x.end(17));
        refused("way(-1)", NONE, x -> x.way(-1));
        refused("way(6)", NONE, x -> x.way(6));
        // Of a text with a fault the tape is empty then, and its fault is the latest.
        same("way with a fault", x -> x.way(5), NONE, x -> {
            Texts.feed(x, "rise 5; line 0; rise");
            return x.way(1);
        });
    }

    private static void toolsRefused() {
        says("tools, there, seek, table, repair, lime: changing nothing");
        refused("tools, LINE", 0, x -> bit(x.tools(1001, 0, 0, 0, 0)));
        refused("tools, LEVEL", 0, x -> bit(x.tools(0, 1001, 0, 0, 0)));
        refused("tools, TURN", 0, x -> bit(x.tools(0, 0, 1001, 0, 0)));
        refused("tools, SHAFT", 0, x -> bit(x.tools(0, 0, 0, 10001, 0)));
        refused("tools, POLES", 0, x -> bit(x.tools(0, 0, 0, 0, -1)));
        refused("there, LOW above", 0, x -> bit(x.there(2, 1, 0)));
        refused("there, beyond", 0, x -> bit(x.there(2, 1, 1000001)));
        refused("there, axis", 0, x -> bit(x.there(3, 0, 0)));
        refused("seek, none", 0, x -> bit(x.seek(0, 0, 0, 0, 0, 0)));
        refused("seek, weight", 0, x -> bit(x.seek(1, 1, 10, 0, 0, 0)));
        refused("seek, HEAR", 0, x -> bit(x.seek(1, 1, 1, 41, 0, 0)));
        refused("seek, PULL", 0, x -> bit(x.seek(1, 1, 1, 0, 4, 0)));
        refused("seek, WIDE", 0, x -> bit(x.seek(1, 1, 1, 0, 0, 21)));
        refused("table, class", 0, x -> bit(x.table(10, 0)));
        refused("table, value", 0, x -> bit(x.table(0, 1001)));
        refused("repair, peg 0", NONE, x -> x.repair(0, 0, 70));
        refused("repair, peg", NONE, x -> x.repair(0, 2, 70));
        refused("repair, year", NONE, x -> x.repair(0, 1, 5001));
        same("repair, the 31st", x -> {
            loop(28, () -> x.repair(0, 1, 0));
            return 0;
        }, NONE, x -> x.repair(0, 1, 70));
        refused("lime, 1001", 0, x -> bit(x.lime(1001)));
        refused("lime, -1", 0, x -> bit(x.lime(-1)));
    }

    private static void questions() {
        says("(a question changes nothing)");
        refused("closed", 1, x -> x.closed(0, 5));
        refused("span", -9, x -> x.span(2, 1, 5, false));
        refused("blamed", NONE, x -> x.blamed(0, 5, 0));
        refused("when", NONE, x -> x.when(0, 2, true));
        refused("between", NONE, x -> x.between(1, 1, 0, true));
        refused("lamps", 1, x -> x.lamps(0, 1, 10, 100, 110));
        refused("unit", 33334, x -> x.unit(false));
        refused("run from other headings", 0, x -> {
            for (int h = 0; h < 16; h++) {
                x.run(1, h, 3);
                x.run(3, h, 8);
            }
            return 0;
        });
        refused("meeting", 5 + 2298 - 9240 + 15 + 7, x -> x.meeting(17, 1, 50, 2, 0, true));
        refused("fits", NONE, x -> x.fits(0, 0, 0, 1));
        refused("ways", 0, x -> x.ways(3, 1, 7, 0, 2));
        refused("chance", 1, x -> x.chance(1, -20, true));
        refused("detour", 780, x -> {
            x.seek(0, 1, 0, 0, 0, 20);
            int far = x.detour(39, 20, true);
            x.seek(1, 2, 3, 2, 1, 1);
            return far;
        });
        refused("flow", 0, x -> x.flow(1, 5000, 9999, true));
        refused("narrow", 1, x -> x.narrow(0, 70, 4));
    }

    public static void main(String[] args) {
        whatIsTaken();
        sightsRefused();
        digsRefused();
        textsRefused();
        toolsRefused();
        questions();
        finish("RefusedCallsTest");
    }
}
