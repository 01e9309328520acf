import java.math.BigInteger;
import java.util.ArrayList;
import java.util.HashMap;
import java.util.List;
import java.util.Map;
import java.util.TreeMap;

/** The document's promises written a second time, in other ways than TunnelBook's, to compare with. */
final class PlainBook {
    static final int NONE = -1;
    static final int FREE = -2000000000;
    private static final long FAR = Long.MAX_VALUE / 4;

    private record Sight(int axis, int from, int to, int low, int high, int day) { }

    private record Reach(int low, int high, int rateLow, int rateHigh, int width, int station) { }

    private record Mark(int peg, int from, int to) { }

    private record Repair(int gallery, int peg, int year, int day) { }

    private record Count(int units, int low, int high) { }

    private record Step(String name, int n, List<Step> inside) { }

    private static final class Fault extends RuntimeException {
        final int what;
        final int place;

        Fault(int what, int place) {
            this.what = what;
            this.place = place;
        }
    }

    private static final class NotDone extends RuntimeException { }

    private int day = 0;
    private int stations = 1;
    private final List<Sight> sights = new ArrayList<>();
    private final List<List<Reach>> reaches = List.of(new ArrayList<>(), new ArrayList<>());
    private final List<List<Mark>> marks = List.of(new ArrayList<>(), new ArrayList<>());
    private final int[] mouths = {NONE, NONE};
    private final List<Count> counts = new ArrayList<>();
    private final StringBuilder tape = new StringBuilder();
    private final Map<Integer, List<Step>> told = new TreeMap<>();
    private int fault = NONE;
    private int faultPlace = NONE;
    private int[] tools = {5, 3, 10, 50, 4};
    private final int[][] there = new int[3][2];
    private int[] seek = {1, 1, 1, 0, 0, 0};
    private final int[] table = {0, 10, 20, 30, 40, 50, 60, 70, 80, 90};
    private final List<Repair> repairs = new ArrayList<>();
    private int lime = 0;

    private static boolean in(int v, int low, int high) {
        return low <= v && v <= high;
    }

    private boolean isStation(int s) {
        return in(s, 0, stations - 1);
    }

    int days(int n) {
        if (n < 1 || n > 1000 || day + n > 9999) {
            return NONE;
        }
        return day += n;
    }

    int station() {
        return stations == 24 ? NONE : stations++;
    }

    int sight(int axis, int from, int to, int low, int high) {
        if (!in(axis, 0, 2) || !isStation(from) || !isStation(to) || from == to || sights.size() == 80) {
            return NONE;
        }
        if (!in(low, -1000000, 1000000) || !in(high, -1000000, 1000000) || low > high) {
            return NONE;
        }
        sights.add(new Sight(axis, from, to, low, high, day));
        return sights.size() - 1;
    }

    /** The greatest differences between all stations, or null where the axis isn't closed. */
    private long[][] net(int axis, int known, int without) {
        long[][] most = new long[stations][stations];
        for (int i = 0; i < stations; i++) {
            for (int j = 0; j < stations; j++) {
                most[i][j] = i == j ? 0 : FAR;
            }
        }
        for (int i = 0; i < sights.size(); i++) {
            Sight s = sights.get(i);
            if (i != without && s.axis == axis && s.day <= known) {
                most[s.from][s.to] = Math.min(most[s.from][s.to], s.high);
                most[s.to][s.from] = Math.min(most[s.to][s.from], -s.low);
            }
        }
        return closure(most);
    }

    private static long[][] closure(long[][] most) {
        for (int k = 0; k < most.length; k++) {
            for (int i = 0; i < most.length; i++) {
                for (int j = 0; j < most.length; j++) {
                    if (most[i][k] < FAR && most[k][j] < FAR) {
                        most[i][j] = Math.min(most[i][j], most[i][k] + most[k][j]);
                    }
                }
            }
            for (int i = 0; i < most.length; i++) {
                if (most[i][i] < 0) {
                    return null;
                }
            }
        }
        return most;
    }

    int closed(int axis, int known) {
        if (!in(axis, 0, 2) || !in(known, 0, 9999)) {
            return NONE;
        }
        return net(axis, known, NONE) == null ? 0 : 1;
    }

    int span(int axis, int station, int known, boolean high) {
        return gap(axis, 0, station, known, high);
    }

    int gap(int axis, int from, int to, int known, boolean high) {
        if (!in(axis, 0, 2) || !in(known, 0, 9999) || !isStation(from) || !isStation(to)) {
            return FREE;
        }
        long[][] most = net(axis, known, NONE);
        if (most == null || most[from][to] == FAR) {
            return FREE;
        }
        return (int) (high ? most[from][to] : -most[to][from]);
    }

    int blamed(int axis, int known, int i) {
        if (!in(axis, 0, 2) || !in(known, 0, 9999) || net(axis, known, NONE) != null) {
            return NONE;
        }
        List<Integer> all = new ArrayList<>();
        for (int s = 0; s < sights.size(); s++) {
            if (net(axis, known, s) != null) {
                all.add(s);
            }
        }
        return i >= 0 && i < all.size() ? all.get(i) : NONE;
    }

    private int pegs(int gallery) {
        int size = reaches.get(gallery).size();
        return size == 0 ? 0 : size + 1;
    }

    int reach(int gallery, int low, int high, int rateLow, int rateHigh, int width, int station) {
        if (!in(gallery, 0, 1) || pegs(gallery) == 20 || station != NONE && !isStation(station)) {
            return NONE;
        }
        if (low < 1 || high > 1000000 || low > high || rateLow < 1 || rateHigh > 10000 || rateLow > rateHigh) {
            return NONE;
        }
        if (width < 100 || width > 5000) {
            return NONE;
        }
        reaches.get(gallery).add(new Reach(low, high, rateLow, rateHigh, width, station));
        return reaches.get(gallery).size();
    }

    boolean mouth(int gallery, int station) {
        if (!in(gallery, 0, 1) || pegs(gallery) == 0 || !isStation(station)) {
            return false;
        }
        mouths[gallery] = station;
        return true;
    }

    int mark(int gallery, int peg, int from, int to) {
        int all = marks.get(0).size() + marks.get(1).size();
        if (!in(gallery, 0, 1) || !in(peg, 0, pegs(gallery) - 1) || all == 40) {
            return NONE;
        }
        if (from < 0 || to > 20000 || from > to) {
            return NONE;
        }
        marks.get(gallery).add(new Mark(peg, from, to));
        return all + 1;
    }

    /** The greatest numbers of days between all pegs and the day 0 (the last place), or null if broken. */
    private long[][] digging(int gallery) {
        int pegs = pegs(gallery);
        long[][] most = new long[pegs + 1][pegs + 1];
        for (int i = 0; i <= pegs; i++) {
            for (int j = 0; j <= pegs; j++) {
                most[i][j] = i == j ? 0 : j == pegs ? 0 : i == pegs ? 20000 : FAR;
            }
        }
        for (int p = 1; p < pegs; p++) {
            Reach r = reaches.get(gallery).get(p - 1);
            long least = 0;
            while (least * r.rateHigh < r.low) {
                least++;
            }
            long greatest = least;
            while ((greatest + 1) * r.rateLow <= r.high) {
                greatest++;
            }
            if (greatest * r.rateLow > r.high) {
                return null;
            }
            most[p - 1][p] = greatest;
            most[p][p - 1] = -least;
        }
        for (Mark m : marks.get(gallery)) {
            most[pegs][m.peg] = Math.min(most[pegs][m.peg], m.to);
            most[m.peg][pegs] = Math.min(most[m.peg][pegs], -m.from);
        }
        return closure(most);
    }

    int when(int gallery, int peg, boolean late) {
        if (!in(gallery, 0, 1) || !in(peg, 0, pegs(gallery) - 1)) {
            return NONE;
        }
        long[][] most = digging(gallery);
        if (most == null) {
            return NONE;
        }
        int zero = pegs(gallery);
        return (int) (late ? most[zero][peg] : -most[peg][zero]);
    }

    int between(int gallery, int first, int second, boolean late) {
        if (!in(gallery, 0, 1) || !in(first, 0, second - 1) || !in(second, 1, pegs(gallery) - 1)) {
            return NONE;
        }
        long[][] most = digging(gallery);
        if (most == null) {
            return NONE;
        }
        return (int) (late ? most[first][second] : -most[second][first]);
    }

    int lamps(int gallery, int peg, int holes, int low, int high) {
        if (!in(gallery, 0, 1) || !in(peg, 1, pegs(gallery) - 1) || !in(holes, 0, 9999)) {
            return NONE;
        }
        if (low < 1 || high > 100000 || low > high) {
            return NONE;
        }
        Reach r = reaches.get(gallery).get(peg - 1);
        for (int d = low; d <= high; d++) {
            if (r.low / d <= holes && holes <= r.high / d) {
                return 1;
            }
        }
        return 0;
    }

    int count(int units, int low, int high) {
        if (!in(units, 1, 9999) || low < 1 || high > 2000000 || low > high || counts.size() == 30) {
            return NONE;
        }
        counts.add(new Count(units, low, high));
        if (unit(false) > unit(true)) {
            counts.remove(counts.size() - 1);
            return NONE;
        }
        return counts.size();
    }

    int unit(boolean high) {
        if (counts.isEmpty()) {
            return NONE;
        }
        long least = 0;
        long greatest = Long.MAX_VALUE;
        for (Count c : counts) {
            long from = 1000L * c.low / c.units;
            while (from * c.units < 1000L * c.low) {
                from++;
            }
            least = Math.max(least, from);
            greatest = Math.min(greatest, 1000L * c.high / c.units);
        }
        return (int) (high ? greatest : least);
    }

    int feed(int a, int b, int c, int d, int e) {
        if (tape.length() + 20 > 400) {
            return NONE;
        }
        for (int four : new int[] {a, b, c, d, e}) {
            for (int i = 3; i >= 0; i--) {
                tape.append((char) (four >> 8 * i & 255));
            }
        }
        return tape.length();
    }

    int end(int n) {
        if (n < 0 || n > tape.length()) {
            return NONE;
        }
        tape.setLength(n);
        return n;
    }

    int way(int w) {
        if (!in(w, 0, 5)) {
            return NONE;
        }
        Parser parser = new Parser(tape.toString());
        tape.setLength(0);
        try {
            List<Step> text = parser.text();
            fault = 0;
            faultPlace = NONE;
            told.put(w, text);
            return parser.parts;
        } catch (Fault f) {
            fault = f.what;
            faultPlace = f.place;
            return NONE;
        }
    }

    /** Reads by descent, a method for each thing of the language. */
    private static final class Parser {
        final String text;
        final Map<String, List<Step>> defs = new HashMap<>();
        int at = 0;
        int start = 0;
        int braces = 0;
        int parts = 0;
        String token = "";

        Parser(String text) {
            this.text = text;
        }

        /** The next token, "" at the end. */
        void next() {
            while (at < text.length() && (text.charAt(at) == ' ' || text.charAt(at) == '\n')) {
                at++;
            }
            start = at;
            int end = at;
            String rest = text.substring(at);
            if (rest.isEmpty()) {
                token = "";
                return;
            }
            while (end < text.length() && text.substring(at, end + 1).matches("[a-zA-Z]+|[0-9]+")) {
                end++;
            }
            if (end == at) {
                end++;
            }
            token = text.substring(at, end);
            at = end;
        }

        Fault wrong(int what) {
            return new Fault(what, start);
        }

        void need(String wanted) {
            next();
            if (!token.equals(wanted)) {
                throw wrong(1);
            }
        }

        int need(int low, int high) {
            next();
            if (!token.matches("[0-9]+")) {
                throw wrong(1);
            }
            BigInteger n = new BigInteger(token);
            if (n.compareTo(BigInteger.valueOf(low)) < 0 || n.compareTo(BigInteger.valueOf(high)) > 0) {
                throw wrong(2);
            }
            return n.intValue();
        }

        String letter() {
            next();
            if (!token.matches("[a-h]")) {
                throw wrong(1);
            }
            return token;
        }

        List<Step> text() {
            List<Step> main = new ArrayList<>();
            next();
            while (!token.isEmpty()) {
                parts++;
                if (token.equals("def")) {
                    String letter = letter();
                    if (defs.containsKey(letter)) {
                        throw wrong(4);
                    }
                    List<Step> body = block();
                    defs.put(letter, body);
                } else {
                    main.add(step());
                }
                next();
            }
            return main;
        }

        /** From { to }. */
        List<Step> block() {
            need("{");
            if (++braces > 8) {
                throw wrong(3);
            }
            List<Step> inside = new ArrayList<>();
            next();
            while (!token.equals("}")) {
                inside.add(step());
                next();
            }
            braces--;
            return inside;
        }

        /** A step whose first token has been come to. */
        Step step() {
            String name = token;
            int n = 0;
            switch (name) {
                case "line" -> n = need(1, 9999);
                case "turn" -> n = need(1, 15);
                case "rise", "fall" -> n = need(0, 100000);
                case "shaft", "poles" -> { }
                case "do" -> {
                    List<Step> body = defs.get(letter());
                    if (body == null) {
                        throw wrong(4);
                    }
                    need(";");
                    return new Step("repeat", 1, body);
                }
                case "repeat" -> {
                    int times = need(1, 99);
                    return new Step("repeat", times, block());
                }
                default -> throw wrong(1);
            }
            need(";");
            return new Step(name, n, List.of());
        }
    }

    int fault(int what) {
        return what == 0 ? fault : what == 1 ? faultPlace : NONE;
    }

    boolean tools(int line, int level, int turn, int shaft, int poles) {
        if (!in(line, 0, 1000) || !in(level, 0, 1000) || !in(turn, 0, 1000) || !in(shaft, 0, 10000)
                || !in(poles, 0, 1000)) {
            return false;
        }
        tools = new int[] {line, level, turn, shaft, poles};
        return true;
    }

    private static boolean holdsSteps(List<Step> steps) {
        for (Step s : steps) {
            if (!s.name.equals("repeat") || holdsSteps(s.inside)) {
                return true;
            }
        }
        return false;
    }

    private static final int[][] RAYS = {{1000, 0}, {924, 383}, {707, 707}, {383, 924}, {0, 1000}};

    private static int[] ray(int heading) {
        if (heading <= 4) {
            return RAYS[heading];
        }
        int[] less = ray(heading - 4);
        return new int[] {-less[1], less[0]};
    }

    private static long up(long v, long by) {
        return (v + by - 1) / by;
    }

    private void go(List<Step> steps, long[] at) {
        for (Step s : steps) {
            if (s.name.equals("repeat")) {
                for (int i = 0; i < s.n && holdsSteps(s.inside); i++) {
                    go(s.inside, at);
                }
                continue;
            }
            switch (s.name) {
                case "line" -> {
                    int[] ray = ray((int) at[7]);
                    at[0] += (long) s.n * ray[0];
                    at[1] += (long) s.n * ray[1];
                    long a = up((long) s.n * tools[0], 10);
                    long b = up(s.n * at[6], 10);
                    at[3] += up(a * Math.abs(ray[0]) + b * Math.abs(ray[1]), 1000);
                    at[4] += up(a * Math.abs(ray[1]) + b * Math.abs(ray[0]), 1000);
                    at[5] += up((long) s.n * tools[1], 10);
                }
                case "turn" -> {
                    at[7] = (at[7] + s.n) % 16;
                    at[6] += tools[2];
                }
                case "rise" -> at[2] += s.n;
                case "fall" -> at[2] -= s.n;
                case "shaft" -> {
                    at[3] = Math.min(at[3], tools[3]);
                    at[4] = Math.min(at[4], tools[3]);
                    at[6] = Math.min(at[6], tools[2]);
                }
                default -> at[6] = Math.min(at[6], tools[4]);
            }
            at[8]++;
            if (at[8] > 5000) {
                throw new NotDone();
            }
            for (int i = 0; i < 7; i++) {
                if (at[i] > 100000000 || at[i] < -100000000) {
                    throw new NotDone();
                }
            }
        }
    }

    /** Null, if it isn't done. */
    private long[] made(int w, int heading) {
        long[] at = new long[9];
        at[7] = heading;
        try {
            go(told.get(w), at);
            return at;
        } catch (NotDone n) {
            return null;
        }
    }

    int run(int w, int heading, int what) {
        if (!told.containsKey(w) || !in(heading, 0, 15) || !in(what, 0, 8)) {
            return FREE;
        }
        long[] at = made(w, heading);
        return at == null ? FREE : (int) at[what];
    }

    private boolean isStart(int a) {
        return in(a, 0, 95) && told.containsKey(a / 16);
    }

    int meeting(int a, int from, int b, int to, int axis, boolean high) {
        if (!isStart(a) || !isStart(b) || !isStation(from) || !isStation(to) || !in(axis, 0, 2)) {
            return FREE;
        }
        int gap = gap(axis, from, to, day, high);
        long[] one = made(a / 16, a % 16);
        long[] other = made(b / 16, b % 16);
        if (gap == FREE || one == null || other == null) {
            return FREE;
        }
        long error = one[3 + axis] + other[3 + axis];
        return (int) (gap + other[axis] - one[axis] + (high ? error : -error));
    }

    boolean there(int axis, int low, int high) {
        if (!in(axis, 0, 2) || low < -1000000 || high > 1000000 || low > high) {
            return false;
        }
        there[axis][0] = low;
        there[axis][1] = high;
        return true;
    }

    int fits(int a, int from, int b, int to) {
        if (!isStart(a) || !isStart(b) || !isStation(from) || !isStation(to)) {
            return NONE;
        }
        boolean fit = true;
        for (int axis = 0; axis < 3; axis++) {
            int low = meeting(a, from, b, to, axis, false);
            int high = meeting(a, from, b, to, axis, true);
            if (low == FREE || high == FREE) {
                return 2;
            }
            fit &= Math.max(low, there[axis][0]) <= Math.min(high, there[axis][1]);
        }
        return fit ? 0 : 1;
    }

    int ways(int headingA, int from, int headingB, int to, int what) {
        if (!in(headingA, 0, 15) || !in(headingB, 0, 15) || !in(what, 0, 2) || !isStation(from)
                || !isStation(to)) {
            return NONE;
        }
        int n = 0;
        for (int a : told.keySet()) {
            for (int b : told.keySet()) {
                n += fits(16 * a + headingA, from, 16 * b + headingB, to) == what ? 1 : 0;
            }
        }
        return n;
    }

    boolean seek(int left, int none, int right, int hear, int pull, int wide) {
        if (!in(left, 0, 9) || !in(none, 0, 9) || !in(right, 0, 9) || left + none + right == 0) {
            return false;
        }
        if (!in(hear, 0, 40) || !in(pull, 0, 3) || !in(wide, 0, 20)) {
            return false;
        }
        seek = new int[] {left, none, right, hear, pull, wide};
        return true;
    }

    private int after(int left, int off) {
        if (left > seek[3]) {
            return off;
        }
        int by = Math.min(seek[4], Math.abs(off));
        return off > 0 ? off - by : off + by;
    }

    /** The products of all rows that miss, each gone through. */
    private long missing(int ahead, int off) {
        if (ahead == 0) {
            return Math.abs(off) > seek[5] ? 1 : 0;
        }
        long sum = 0;
        for (int side = -1; side <= 1; side++) {
            if (seek[side + 1] > 0) {
                sum += seek[side + 1] * missing(ahead - 1, after(ahead - 1, off + side));
            }
        }
        return sum;
    }

    long chance(int ahead, int off, boolean lower) {
        if (!in(ahead, 1, 12) || !in(off, -20, 20)) {
            return NONE;
        }
        BigInteger all = BigInteger.valueOf(seek[0] + seek[1] + seek[2]).pow(ahead);
        BigInteger miss = BigInteger.valueOf(missing(ahead, off));
        BigInteger divisor = all.gcd(miss);
        return (lower ? all : miss).divide(divisor).longValueExact();
    }

    private int best(int ahead, int off, boolean high, Map<Integer, Integer> kept) {
        if (ahead == 0) {
            return Math.abs(off) > seek[5] ? NONE : 0;
        }
        int key = 1000 * ahead + off + 500;
        if (kept.containsKey(key)) {
            return kept.get(key);
        }
        int best = NONE;
        for (int side = -1; side <= 1; side++) {
            if (seek[side + 1] > 0) {
                int to = after(ahead - 1, off + side);
                int rest = best(ahead - 1, to, high, kept);
                if (rest != NONE) {
                    int sum = rest + Math.abs(to);
                    best = best == NONE ? sum : high ? Math.max(best, sum) : Math.min(best, sum);
                }
            }
        }
        kept.put(key, best);
        return best;
    }

    int detour(int ahead, int off, boolean high) {
        if (!in(ahead, 1, 40) || !in(off, -20, 20)) {
            return NONE;
        }
        return best(ahead, off, high, new HashMap<>());
    }

    boolean table(int klass, int v) {
        if (!in(klass, 0, 9) || !in(v, 0, 1000)) {
            return false;
        }
        table[klass] = v;
        return true;
    }

    int repair(int gallery, int peg, int year) {
        if (!in(gallery, 0, 1) || !in(peg, 1, pegs(gallery) - 1) || !in(year, 0, 5000) || repairs.size() == 30) {
            return NONE;
        }
        repairs.add(new Repair(gallery, peg, year, day));
        return repairs.size();
    }

    boolean lime(int v) {
        if (!in(v, 0, 1000)) {
            return false;
        }
        lime = v;
        return true;
    }

    /** What each reach lets; null if that can't be told. */
    private List<Integer> lets(int gallery, int year, int known, boolean high) {
        if (!in(gallery, 0, 1) || !in(year, 0, 5000) || !in(known, 0, 9999) || pegs(gallery) < 2) {
            return null;
        }
        List<Integer> all = new ArrayList<>();
        int upper = mouths[gallery];
        for (int peg = 1; peg < pegs(gallery); peg++) {
            Reach r = reaches.get(gallery).get(peg - 1);
            if (upper == NONE || r.station == NONE) {
                return null;
            }
            int fall = gap(2, r.station, upper, known, high);
            if (fall == FREE) {
                return null;
            }
            double thousandths = Math.floor(1000.0 * fall / (high ? r.low : r.high));
            int klass = thousandths < 1 ? 0 : (int) Math.min(9, 1 + Math.floor(thousandths / 2));
            int since = 0;
            for (Repair done : repairs) {
                if (done.gallery == gallery && done.peg == peg && done.year <= year && done.day <= known) {
                    since = Math.max(since, done.year);
                }
            }
            int open = Math.max(0, r.width - 2 * (lime * (year - since) / 100));
            all.add(table[klass] * open / 100);
            upper = r.station;
        }
        return all;
    }

    int flow(int gallery, int year, int known, boolean high) {
        List<Integer> all = lets(gallery, year, known, high);
        return all == null ? NONE : java.util.Collections.min(all);
    }

    int narrow(int gallery, int year, int known) {
        List<Integer> all = lets(gallery, year, known, false);
        return all == null ? NONE : all.indexOf(java.util.Collections.min(all)) + 1;
    }

    int about(int what) {
        int set = 0;
        for (int w : told.keySet()) {
            set += 1 << w;
        }
        int[] all = {day, stations, sights.size(), pegs(0), pegs(1), marks.get(0).size() + marks.get(1).size(),
            counts.size(), set, repairs.size(), lime, tape.length()};
        if (in(what, 0, 10)) {
            return all[what];
        }
        return in(what, 20, 29) ? table[what - 20] : NONE;
    }
}
