import java.util.Random;

/** Runs of calls made up by chance, answered by TunnelBook and by PlainBook alike. */
public final class DifferTest {
    private static final int[] EDGES = {Integer.MIN_VALUE, Integer.MAX_VALUE, -1, 0, 1, 1000000, -1000000, 10000,
        9999, 20000, 20001, 400, 401, 5000, 5001, 24, 80, -2000000000};

    private final Random random;
    private final TunnelBook book = new TunnelBook();
    private final PlainBook plain = new PlainBook();
    private final StringBuilder calls = new StringBuilder();
    private int wrong = 0;

    private DifferTest(long seed) {
        random = new Random(seed);
    }

    private int pick(int low, int high) {
        int luck = random.nextInt(60);
        if (luck == 0) {
            return EDGES[random.nextInt(EDGES.length)];
        }
        if (luck < 4) {
            return new int[] {low - 1, low, high, high + 1}[random.nextInt(4)];
        }
        return low + (int) ((long) random.nextInt() - Integer.MIN_VALUE) % (high - low + 1);
    }

    private int near(int low, int high) {
        int luck = random.nextInt(60);
        return luck == 0 ? EDGES[random.nextInt(EDGES.length)] : low + random.nextInt(high - low + 1);
    }

    private int known() {
        return random.nextInt(3) == 0 ? near(-1, 12) : near(9000, 9999);
    }

    private int stationNumber() {
        return near(0, random.nextInt(20) == 0 ? 24 : Math.max(1, plain.about(1) - 1));
    }

    private int peg(int gallery) {
        return near(0, Math.max(1, plain.about(gallery == 1 ? 4 : 3) - (random.nextInt(9) == 0 ? 0 : 1)));
    }

    private void same(String call, long got, long due) {
        calls.append(call).append(" = ").append(got).append('\n');
        if (got != due) {
            wrong++;
            System.out.println(call + " answered " + got + ", due is " + due);
        }
    }

    private static String told(String name, Object... args) {
        return name + java.util.Arrays.toString(args);
    }

    private void surveyCall(int kind) {
        int axis = near(0, random.nextInt(30) == 0 ? 3 : 2);
        int from = stationNumber();
        int to = stationNumber();
        int known = known();
        boolean high = random.nextBoolean();
        switch (kind) {
            case 0 -> {
                int n = random.nextInt(3) == 0 ? near(-1, 1002) : near(0, 3);
                same(told("days", n), book.days(n), plain.days(n));
            }
            case 1 -> same("station", book.station(), plain.station());
            case 2, 3 -> {
                int reach = new int[] {10, 1000, 1000000}[random.nextInt(3)];
                int low = near(-reach, reach);
                int most = (int) Math.min(1000001L, (long) low + random.nextInt(reach));
                same(told("sight", axis, from, to, low, most), book.sight(axis, from, to, low, most),
                    plain.sight(axis, from, to, low, most));
            }
            case 4 -> same(told("closed", axis, known), book.closed(axis, known), plain.closed(axis, known));
            case 5 -> same(told("span", axis, to, known, high), book.span(axis, to, known, high),
                plain.span(axis, to, known, high));
            case 6 -> same(told("gap", axis, from, to, known, high), book.gap(axis, from, to, known, high),
                plain.gap(axis, from, to, known, high));
            default -> {
                int i = near(-1, 3);
                same(told("blamed", axis, known, i), book.blamed(axis, known, i), plain.blamed(axis, known, i));
            }
        }
    }

    private void galleryCall(int kind) {
        int gallery = near(0, random.nextInt(30) == 0 ? 2 : 1);
        int peg = peg(gallery);
        boolean late = random.nextBoolean();
        switch (kind) {
            case 0, 1 -> reachCall(gallery);
            case 2 -> {
                int from = near(0, random.nextInt(4) == 0 ? 20001 : 400);
                int to = Math.max(from, from + random.nextInt(500)) - (random.nextInt(20) == 0 ? 400 : 0);
                same(told("mark", gallery, peg, from, to), book.mark(gallery, peg, from, to),
                    plain.mark(gallery, peg, from, to));
            }
            case 3 -> same(told("when", gallery, peg, late), book.when(gallery, peg, late),
                plain.when(gallery, peg, late));
            case 4 -> {
                int second = peg(gallery);
                same(told("between", gallery, peg, second, late), book.between(gallery, peg, second, late),
                    plain.between(gallery, peg, second, late));
            }
            case 5 -> {
                int holes = random.nextInt(5) == 0 ? near(-1, 10000) : near(0, 30);
                int low = random.nextInt(9) == 0 ? near(0, 100000) : near(1, 300);
                int high = low + random.nextInt(20) - 1;
                same(told("lamps", gallery, peg, holes, low, high), book.lamps(gallery, peg, holes, low, high),
                    plain.lamps(gallery, peg, holes, low, high));
            }
            case 6 -> {
                int units = random.nextInt(3) == 0 ? near(0, 10000) : near(1, 50);
                int low = units > 0 && units < 4000 ? 300 * units + near(-200, 0) : near(1, 2000000);
                int high = (int) Math.min(2000001L, (long) low + random.nextInt(400));
                same(told("count", units, low, high), book.count(units, low, high), plain.count(units, low, high));
            }
            default -> same(told("unit", late), book.unit(late), plain.unit(late));
        }
    }

    private void reachCall(int gallery) {
        int reach = new int[] {10, 3000, 1000000}[random.nextInt(3)];
        int low = near(1, reach);
        int high = (int) Math.min(1000001L, (long) low + random.nextInt(reach));
        int rateLow = near(1, random.nextInt(4) == 0 ? 10000 : 30);
        int rateHigh = (int) Math.min(10001L, (long) rateLow + random.nextInt(300));
        int width = near(100, random.nextInt(9) == 0 ? 5001 : 2000);
        int station = random.nextInt(20) == 0 ? -1 : stationNumber();
        same(told("reach", gallery, low, high, rateLow, rateHigh, width, station),
            book.reach(gallery, low, high, rateLow, rateHigh, width, station),
            plain.reach(gallery, low, high, rateLow, rateHigh, width, station));
    }

    private void wayCall(int kind) {
        int w = random.nextInt(4) == 0 ? near(0, random.nextInt(9) == 0 ? 6 : 5) : random.nextInt(3);
        int a = random.nextInt(5) == 0 ? near(-1, 96) : 16 * random.nextInt(3) + random.nextInt(16);
        int b = random.nextInt(5) == 0 ? near(-1, 96) : 16 * random.nextInt(3) + random.nextInt(16);
        int from = stationNumber();
        int to = stationNumber();
        int what = near(0, random.nextInt(9) == 0 ? 9 : 8);
        boolean high = random.nextBoolean();
        switch (kind) {
            case 0, 1 -> wayTold(w);
            case 2 -> {
                int heading = near(0, random.nextInt(9) == 0 ? 16 : 15);
                same(told("run", w, heading, what), book.run(w, heading, what), plain.run(w, heading, what));
            }
            case 3 -> {
                int axis = near(0, 2);
                same(told("meeting", a, from, b, to, axis, high), book.meeting(a, from, b, to, axis, high),
                    plain.meeting(a, from, b, to, axis, high));
            }
            case 4 -> same(told("fits", a, from, b, to), book.fits(a, from, b, to), plain.fits(a, from, b, to));
            case 5 -> {
                int headingA = near(0, 15);
                int headingB = near(0, random.nextInt(9) == 0 ? 16 : 15);
                int verdict = near(0, random.nextInt(9) == 0 ? 3 : 2);
                same(told("ways", headingA, from, headingB, to, verdict),
                    book.ways(headingA, from, headingB, to, verdict),
                    plain.ways(headingA, from, headingB, to, verdict));
            }
            case 6 -> {
                int axis = near(0, 2);
                int low = near(-1000000, 1000000);
                int most = (int) Math.min(1000001L, (long) low + random.nextInt(1000000));
                same(told("there", axis, low, most), book.there(axis, low, most) ? 1 : 0,
                    plain.there(axis, low, most) ? 1 : 0);
            }
            default -> {
                int[] t = {near(0, 20), near(0, 20), near(0, 20), near(0, 200), near(0, 1001)};
                same(told("tools", t[0], t[1], t[2], t[3], t[4]), book.tools(t[0], t[1], t[2], t[3], t[4]) ? 1 : 0,
                    plain.tools(t[0], t[1], t[2], t[3], t[4]) ? 1 : 0);
            }
        }
    }

    private void wayTold(int w) {
        String text = Texts.made(random);
        int[] f = Texts.packed(text);
        for (int i = 0; i < f.length; i += 5) {
            same(told("feed", f[i], f[i + 1], f[i + 2], f[i + 3], f[i + 4]),
                book.feed(f[i], f[i + 1], f[i + 2], f[i + 3], f[i + 4]),
                plain.feed(f[i], f[i + 1], f[i + 2], f[i + 3], f[i + 4]));
        }
        int n = random.nextInt(9) == 0 ? near(-1, 401) : text.length();
        same(told("end", n), book.end(n), plain.end(n));
        same(told("way", w, text), book.way(w), plain.way(w));
        same("fault 0", book.fault(0), plain.fault(0));
        same("fault 1", book.fault(1), plain.fault(1));
    }

    private void seekCall(int kind) {
        if (kind < 3) {
            int[] s = {near(0, 9), near(0, 9), near(0, 9), near(0, 40), near(0, 3), near(0, 20)};
            if (random.nextInt(3) == 0) {
                s[random.nextInt(3)] = 0;
            }
            same(told("seek", s[0], s[1], s[2], s[3], s[4], s[5]),
                book.seek(s[0], s[1], s[2], s[3], s[4], s[5]) ? 1 : 0,
                plain.seek(s[0], s[1], s[2], s[3], s[4], s[5]) ? 1 : 0);
            return;
        }
        int off = near(-20, 20);
        boolean high = random.nextBoolean();
        if (kind < 5) {
            int ahead = random.nextInt(40) == 0 ? near(9, 13) : near(0, 8);
            same(told("chance", ahead, off, high), book.chance(ahead, off, high), plain.chance(ahead, off, high));
        } else {
            int ahead = near(0, 41);
            same(told("detour", ahead, off, high), book.detour(ahead, off, high), plain.detour(ahead, off, high));
        }
    }

    private void flowCall(int kind) {
        int gallery = near(0, 1);
        int year = near(0, random.nextInt(9) == 0 ? 5001 : 200);
        int known = known();
        boolean high = random.nextBoolean();
        switch (kind) {
            case 0 -> {
                int klass = near(0, 9);
                int v = near(0, random.nextInt(9) == 0 ? 1001 : 100);
                same(told("table", klass, v), book.table(klass, v) ? 1 : 0, plain.table(klass, v) ? 1 : 0);
            }
            case 1 -> {
                int peg = peg(gallery);
                same(told("repair", gallery, peg, year), book.repair(gallery, peg, year),
                    plain.repair(gallery, peg, year));
            }
            case 2 -> {
                int v = random.nextInt(9) == 0 ? near(0, 1001) : near(0, 60);
                same(told("lime", v), book.lime(v) ? 1 : 0, plain.lime(v) ? 1 : 0);
            }
            case 3 -> {
                int station = stationNumber();
                same(told("mouth", gallery, station), book.mouth(gallery, station) ? 1 : 0,
                    plain.mouth(gallery, station) ? 1 : 0);
            }
            case 4 -> same(told("narrow", gallery, year, known), book.narrow(gallery, year, known),
                plain.narrow(gallery, year, known));
            case 5 -> {
                int what = near(-1, 31);
                same(told("about", what), book.about(what), plain.about(what));
            }
            default -> same(told("flow", gallery, year, known, high), book.flow(gallery, year, known, high),
                plain.flow(gallery, year, known, high));
        }
    }

    /** A valley with a chain of stations, so that what hangs on gaps has answers. */
    private void chain(int links) {
        for (int i = 1; i <= links; i++) {
            same("station", book.station(), plain.station());
            for (int axis = 0; axis < 3; axis++) {
                int low = random.nextInt(40) - 30;
                same(told("sight", axis, i - 1, i, low, low + 9), book.sight(axis, i - 1, i, low, low + 9),
                    plain.sight(axis, i - 1, i, low, low + 9));
            }
        }
    }

    private void galleryAlong(int gallery, int links) {
        for (int i = 1; i <= links; i++) {
            int low = 500 + random.nextInt(2000);
            same("reach", book.reach(gallery, low, low + 500, 5, 50, 900, i),
                plain.reach(gallery, low, low + 500, 5, 50, 900, i));
        }
        same("mouth", book.mouth(gallery, 0) ? 1 : 0, plain.mouth(gallery, 0) ? 1 : 0);
    }

    private int go() {
        int theme = random.nextInt(8);
        if (random.nextBoolean()) {
            int links = random.nextInt(12);
            chain(links);
            galleryAlong(random.nextInt(2), links);
        }
        int each = 120 + random.nextInt(250);
        for (int i = 0; i < each && wrong == 0; i++) {
            int area = theme < 5 && random.nextInt(3) > 0 ? theme : random.nextInt(5);
            switch (area) {
                case 0 -> surveyCall(random.nextInt(8));
                case 1 -> galleryCall(random.nextInt(8));
                case 2 -> wayCall(random.nextInt(8));
                case 3 -> seekCall(random.nextInt(8));
                default -> flowCall(random.nextInt(9));
            }
        }
        return wrong;
    }

    public static void main(String[] args) {
        int runs = args.length > 0 ? Integer.parseInt(args[0]) : 400;
        int first = args.length > 1 ? Integer.parseInt(args[1]) : 0;
        for (int seed = first; seed < first + runs; seed++) {
            DifferTest run = new DifferTest(seed);
            if (run.go() > 0) {
                System.out.println("seed " + seed + ":\n" + run.calls);
                System.exit(1);
            }
        }
        System.out.println("DifferTest: " + runs + " runs alike");
    }
}
