/**
 * An old water tunnel dug from both ends of a hill, told back from what is there.
 * The numbered promises of the project's document say what each call answers.
 */
public final class TunnelBook {
    public static final int NONE = -1;
    public static final int FREE = -2000000000;

    private static final int AXES = 3;
    private static final int UPRIGHT = 2;
    private static final int LAST_DAY = 9999;
    private static final int LAST_YEAR = 5000;
    private static final int FARTHEST = 1000000;

    private final Survey survey = new Survey();
    private final Gallery nearGallery = new Gallery();
    private final Gallery farGallery = new Gallery();
    private final Measure measure = new Measure();
    private final Tape tape = new Tape();
    private final Reader reader = new Reader(tape);
    private final Runs runs = new Runs();
    private final Meetings meetings = new Meetings(survey, runs);
    private final Search search = new Search();
    private final Channel channel = new Channel(survey);
    private int day = 0;

    public TunnelBook() {
    }

    public int days(int n) {
        if (!within(n, 1, 1000) || day + n > LAST_DAY) {
            return NONE;
        }
        day += n;
        return day;
    }

    public int station() {
        return survey.addStation();
    }

    public int sight(int axis, int from, int to, int low, int high) {
        if (!isAxis(axis) || !ordered(low, high, -FARTHEST, FARTHEST)) {
            return NONE;
        }
        if (!survey.has(from) || !survey.has(to) || from == to) {
            return NONE;
        }
        return survey.addSight(axis, from, to, low, high, day);
    }

    public int closed(int axis, int known) {
        if (!isAxis(axis) || !isDay(known)) {
            return NONE;
        }
        return survey.settle(axis, known, NONE, NONE) ? 1 : 0;
    }

    public int span(int axis, int station, int known, boolean high) {
        return gap(axis, 0, station, known, high);
    }

    public int gap(int axis, int from, int to, int known, boolean high) {
        if (!isAxis(axis) || !isDay(known) || !survey.has(from) || !survey.has(to)) {
            return FREE;
        }
        return survey.bound(axis, from, to, known, high);
    }

    public int blamed(int axis, int known, int i) {
        if (!isAxis(axis) || !isDay(known) || i < 0) {
            return NONE;
        }
        return survey.culprit(axis, known, i);
    }

    public int reach(int gallery, int low, int high, int rateLow, int rateHigh, int width, int station) {
        Gallery dug = galleryOf(gallery);
        if (dug == null || station != NONE && !survey.has(station)) {
            return NONE;
        }
        return dug.addReach(low, high, rateLow, rateHigh, width, station);
    }

    public boolean mouth(int gallery, int station) {
        Gallery dug = galleryOf(gallery);
        return dug != null && survey.has(station) && dug.openAt(station);
    }

    public int mark(int gallery, int peg, int from, int to) {
        Gallery dug = galleryOf(gallery);
        if (dug == null || marks() >= 40 || !dug.addMark(peg, from, to)) {
            return NONE;
        }
        return marks();
    }

    public int when(int gallery, int peg, boolean late) {
        Gallery dug = galleryOf(gallery);
        return dug == null ? NONE : dug.dayOf(peg, late);
    }

    public int between(int gallery, int first, int second, boolean late) {
        Gallery dug = galleryOf(gallery);
        return dug == null ? NONE : dug.daysFrom(first, second, late);
    }

    public int lamps(int gallery, int peg, int holes, int low, int high) {
        Gallery dug = galleryOf(gallery);
        if (dug == null || !dug.hasReach(peg)) {
            return NONE;
        }
        if (!within(holes, 0, 9999) || !ordered(low, high, 1, 100000)) {
            return NONE;
        }
        return dug.holesAgree(peg, holes, low, high) ? 1 : 0;
    }

    public int count(int units, int low, int high) {
        return measure.addCount(units, low, high);
    }

    public int unit(boolean high) {
        if (measure.counts == 0) {
            return NONE;
        }
        return high ? measure.greatest : measure.least;
    }

    public int feed(int a, int b, int c, int d, int e) {
        if (!tape.hasRoom(20)) {
            return NONE;
        }
        tape.append(a);
        tape.append(b);
        tape.append(c);
        tape.append(d);
        tape.append(e);
        return tape.length;
    }

    public int end(int n) {
        if (!within(n, 0, tape.length)) {
            return NONE;
        }
        tape.length = n;
        return n;
    }

    public int way(int w) {
        if (!runs.hasPlace(w)) {
            return NONE;
        }
        boolean whole = reader.read();
        tape.length = 0;
        if (!whole) {
            return NONE;
        }
        reader.draft = runs.replace(w, reader.draft);
        return reader.parts;
    }

    public int fault(int what) {
        if (what == 0) {
            return reader.fault;
        }
        return what == 1 ? reader.faultPlace : NONE;
    }

    public boolean tools(int line, int level, int turn, int shaft, int poles) {
        if (!within(line, 0, 1000) || !within(level, 0, 1000) || !within(turn, 0, 1000)) {
            return false;
        }
        if (!within(shaft, 0, 10000) || !within(poles, 0, 1000)) {
            return false;
        }
        runs.walk.take(line, level, turn, shaft, poles);
        runs.forgetAll();
        return true;
    }

    public int run(int w, int heading, int what) {
        if (!runs.hasPlace(w) || !isHeading(heading) || !within(what, 0, Runs.ANSWERS - 1)) {
            return FREE;
        }
        int start = Runs.HEADINGS * w + heading;
        return runs.make(start) ? runs.answer(start, what) : FREE;
    }

    public int meeting(int a, int from, int b, int to, int axis, boolean high) {
        if (!isAxis(axis) || !canMeet(a, from, b, to)) {
            return FREE;
        }
        meetings.look(from, to, day);
        return meetings.bound(a, b, axis, high);
    }

    public boolean there(int axis, int low, int high) {
        if (!isAxis(axis) || !ordered(low, high, -FARTHEST, FARTHEST)) {
            return false;
        }
        meetings.seen(axis, low, high);
        return true;
    }

    public int fits(int a, int from, int b, int to) {
        if (!canMeet(a, from, b, to)) {
            return NONE;
        }
        meetings.look(from, to, day);
        return meetings.judge(a, b);
    }

    public int ways(int headingA, int from, int headingB, int to, int what) {
        if (!isHeading(headingA) || !isHeading(headingB) || !within(what, 0, 2)) {
            return NONE;
        }
        if (!survey.has(from) || !survey.has(to)) {
            return NONE;
        }
        meetings.look(from, to, day);
        return meetings.pairs(headingA, headingB, what);
    }

    public boolean seek(int left, int none, int right, int hear, int pull, int wide) {
        if (!within(left, 0, 9) || !within(none, 0, 9) || !within(right, 0, 9)) {
            return false;
        }
        if (left + none + right == 0 || !within(hear, 0, 40)) {
            return false;
        }
        if (!within(pull, 0, 3) || !within(wide, 0, 20)) {
            return false;
        }
        search.weigh(left, none, right);
        search.hear(hear, pull, wide);
        return true;
    }

    public long chance(int ahead, int off, boolean lower) {
        if (!within(ahead, 1, 12) || !within(off, -20, 20)) {
            return NONE;
        }
        return search.share(ahead, off, lower);
    }

    public int detour(int ahead, int off, boolean high) {
        if (!within(ahead, 1, 40) || !within(off, -20, 20)) {
            return NONE;
        }
        return search.roundabout(ahead, off, high);
    }

    public boolean table(int klass, int v) {
        return channel.setRow(klass, v);
    }

    public int repair(int gallery, int peg, int year) {
        Gallery dug = galleryOf(gallery);
        if (dug == null || repairs() >= 30 || !dug.addRepair(peg, year, day)) {
            return NONE;
        }
        return repairs();
    }

    public boolean lime(int v) {
        if (!within(v, 0, 1000)) {
            return false;
        }
        channel.growth = v;
        return true;
    }

    public int flow(int gallery, int year, int known, boolean high) {
        Gallery dug = galleryOf(gallery);
        if (dug == null || !within(year, 0, LAST_YEAR) || !isDay(known)) {
            return NONE;
        }
        return channel.tightest(dug, year, known, high) == NONE ? NONE : channel.leastLet;
    }

    public int narrow(int gallery, int year, int known) {
        Gallery dug = galleryOf(gallery);
        if (dug == null || !within(year, 0, LAST_YEAR) || !isDay(known)) {
            return NONE;
        }
        return channel.tightest(dug, year, known, false);
    }

    public int about(int what) {
        switch (what) {
            case 0: return day;
            case 1: return survey.stations;
            case 2: return survey.sights;
            case 3: return nearGallery.pegs;
            case 4: return farGallery.pegs;
            case 5: return marks();
            case 6: return measure.counts;
            case 7: return runs.toldWays();
            case 8: return repairs();
            case 9: return channel.growth;
            case 10: return tape.length;
            default: return within(what, 20, 29) ? channel.rowOf(what - 20) : NONE;
        }
    }

    private Gallery galleryOf(int number) {
        if (number == 0) {
            return nearGallery;
        }
        return number == 1 ? farGallery : null;
    }

    private int marks() {
        return nearGallery.marks + farGallery.marks;
    }

    private int repairs() {
        return nearGallery.repairs + farGallery.repairs;
    }

    private boolean canMeet(int a, int from, int b, int to) {
        return runs.make(a) && runs.make(b) && survey.has(from) && survey.has(to);
    }

    private static boolean within(int value, int low, int high) {
        return value >= low && value <= high;
    }

    private static boolean ordered(int low, int high, int least, int greatest) {
        return low >= least && low <= high && high <= greatest;
    }

    private static boolean isAxis(int axis) {
        return within(axis, 0, AXES - 1);
    }

    private static boolean isDay(int known) {
        return within(known, 0, LAST_DAY);
    }

    private static boolean isHeading(int heading) {
        return within(heading, 0, Runs.HEADINGS - 1);
    }

    /** Stations and the sights between them, and what values these let be. */
    private static final class Survey {
        static final int MOST_STATIONS = 24;
        static final int MOST_SIGHTS = 80;
        // Above every way from station to station.
        static final long UNBOUND = 1000000000000L;

        final int[] axisOf = new int[MOST_SIGHTS];
        final int[] from = new int[MOST_SIGHTS];
        final int[] to = new int[MOST_SIGHTS];
        final int[] low = new int[MOST_SIGHTS];
        final int[] high = new int[MOST_SIGHTS];
        final int[] told = new int[MOST_SIGHTS];
        // Long, because sights that don't agree push a distance further down with each look.
        final long[] distance = new long[MOST_STATIONS];
        int stations = 1;
        int sights = 0;

        int addStation() {
            if (stations >= MOST_STATIONS) {
                return NONE;
            }
            stations++;
            return stations - 1;
        }

        boolean has(int station) {
            return station >= 0 && station < stations;
        }

        int addSight(int axis, int first, int second, int least, int greatest, int day) {
            if (sights >= MOST_SIGHTS) {
                return NONE;
            }
            axisOf[sights] = axis;
            from[sights] = first;
            to[sights] = second;
            low[sights] = least;
            high[sights] = greatest;
            told[sights] = day;
            sights++;
            return sights - 1;
        }

        /** The least or the greatest that the second's value can be above the first's. */
        int bound(int axis, int first, int second, int known, boolean greatest) {
            if (!settle(axis, known, NONE, NONE)) {
                return FREE;
            }
            int start = greatest ? first : second;
            int goal = greatest ? second : first;
            settle(axis, known, start, NONE);
            if (!has(goal) || distance[goal] == UNBOUND) {
                return FREE;
            }
            return (int) (greatest ? distance[goal] : -distance[goal]);
        }

        int culprit(int axis, int known, int rank) {
            if (settle(axis, known, NONE, NONE)) {
                return NONE;
            }
            int left = rank;
            for (int sight = 0; sight < sights; sight++) {
                if (counts(sight, axis, known) && settle(axis, known, NONE, sight)) {
                    if (left == 0) {
                        return sight;
                    }
                    left--;
                }
            }
            return NONE;
        }

        private boolean counts(int sight, int axis, int known) {
            return axisOf[sight] == axis && told[sight] <= known;
        }

        /**
         * Shortens the distances from a station (NONE: from all at once) by all sights of an axis
         * but one (NONE: by all) until they stand. They never do where sights contradict one another.
         */
        boolean settle(int axis, int known, int start, int without) {
            for (int station = 0; station < MOST_STATIONS; station++) {
                distance[station] = start == NONE || station == start ? 0 : UNBOUND;
            }
            for (int round = 0; round <= stations; round++) {
                if (!shortenAll(axis, known, without)) {
                    return true;
                }
            }
            return false;
        }

        private boolean shortenAll(int axis, int known, int without) {
            boolean shorter = false;
            for (int sight = 0; sight < sights; sight++) {
                if (sight != without && counts(sight, axis, known)) {
                    boolean forth = shorten(from[sight], to[sight], high[sight]);
                    boolean back = shorten(to[sight], from[sight], -low[sight]);
                    shorter = shorter || forth || back;
                }
            }
            return shorter;
        }

        private boolean shorten(int first, int second, int most) {
            if (first < 0 || first >= MOST_STATIONS || second < 0 || second >= MOST_STATIONS) {
                return false;
            }
            if (distance[first] == UNBOUND || distance[second] <= distance[first] + most) {
                return false;
            }
            distance[second] = distance[first] + most;
            return true;
        }
    }

    /** A row of pegs from a mouth: lengths, days of digging, stations and repairs. */
    private static final class Gallery {
        static final int MOST_PEGS = 20;
        static final int MOST_REPAIRS = 30;
        static final int LAST_DUG = 20000;

        // Of a reach all is kept at the peg at its end.
        final int[] stationOf = new int[MOST_PEGS];
        final int[] low = new int[MOST_PEGS];
        final int[] high = new int[MOST_PEGS];
        final int[] fewestDays = new int[MOST_PEGS];
        final int[] mostDays = new int[MOST_PEGS];
        final int[] width = new int[MOST_PEGS];
        final int[] markedFrom = new int[MOST_PEGS];
        final int[] markedTo = new int[MOST_PEGS];
        final int[] earliest = new int[MOST_PEGS];
        final int[] latest = new int[MOST_PEGS];
        final int[] repairPeg = new int[MOST_REPAIRS];
        final int[] repairYear = new int[MOST_REPAIRS];
        final int[] repairTold = new int[MOST_REPAIRS];
        int pegs = 0;
        int marks = 0;
        int repairs = 0;

        boolean hasPeg(int peg) {
            return peg >= 0 && peg < pegs;
        }

        boolean hasReach(int peg) {
            return peg >= 1 && peg < pegs;
        }

        int addReach(int shortest, int longest, int slowest, int fastest, int wide, int station) {
            if (!ordered(shortest, longest, 1, 1000000) || !ordered(slowest, fastest, 1, 10000)) {
                return NONE;
            }
            if (!within(wide, 100, 5000) || pegs >= MOST_PEGS) {
                return NONE;
            }
            if (pegs == 0) {
                addPeg(NONE);
            }
            int peg = pegs;
            addPeg(station);
            low[peg] = shortest;
            high[peg] = longest;
            fewestDays[peg] = (shortest + fastest - 1) / fastest;
            mostDays[peg] = longest / slowest;
            width[peg] = wide;
            return peg;
        }

        private void addPeg(int station) {
            stationOf[pegs] = station;
            markedFrom[pegs] = 0;
            markedTo[pegs] = LAST_DUG;
            pegs++;
        }

        /** Peg 0 is there from the first reach on, and so is what can be told of it. */
        boolean openAt(int station) {
            if (pegs == 0) {
                return false;
            }
            stationOf[0] = station;
            return true;
        }

        boolean addMark(int peg, int first, int last) {
            if (!hasPeg(peg) || !ordered(first, last, 0, LAST_DUG)) {
                return false;
            }
            markedFrom[peg] = Math.max(markedFrom[peg], first);
            markedTo[peg] = Math.min(markedTo[peg], last);
            marks++;
            return true;
        }

        int dayOf(int peg, boolean late) {
            if (!hasPeg(peg) || !dig()) {
                return NONE;
            }
            return late ? latest[peg] : earliest[peg];
        }

        int daysFrom(int first, int second, boolean late) {
            if (!hasPeg(first) || !hasPeg(second) || first >= second || !dig()) {
                return NONE;
            }
            int fewest = 0;
            int most = 0;
            for (int peg = first + 1; peg <= second; peg++) {
                fewest += fewestDays[peg];
                most += mostDays[peg];
            }
            if (late) {
                return Math.min(most, latest[second] - earliest[first]);
            }
            return Math.max(fewest, earliest[second] - latest[first]);
        }

        /** Fills in the earliest and the latest day of each peg; false if marks are broken. */
        private boolean dig() {
            for (int peg = 0; peg < pegs; peg++) {
                earliest[peg] = markedFrom[peg];
                latest[peg] = markedTo[peg];
                if (peg > 0) {
                    if (fewestDays[peg] > mostDays[peg]) {
                        return false;
                    }
                    earliest[peg] = Math.max(earliest[peg], earliest[peg - 1] + fewestDays[peg]);
                    latest[peg] = Math.min(latest[peg], latest[peg - 1] + mostDays[peg]);
                }
                if (earliest[peg] > latest[peg]) {
                    return false;
                }
            }
            for (int peg = pegs - 1; peg > 0; peg--) {
                earliest[peg - 1] = Math.max(earliest[peg - 1], earliest[peg] - mostDays[peg]);
                latest[peg - 1] = Math.min(latest[peg - 1], latest[peg] - fewestDays[peg]);
            }
            return true;
        }

        /** Some length, cut by some distance, is so many: the distances for that are in one row. */
        boolean holesAgree(int peg, int holes, int nearest, int farthest) {
            if (!hasReach(peg) || holes < 0) {
                return false;
            }
            int least = Math.max(nearest, low[peg] / (holes + 1) + 1);
            int greatest = holes == 0 ? farthest : Math.min(farthest, high[peg] / holes);
            return least <= greatest;
        }

        boolean addRepair(int peg, int year, int day) {
            if (!hasReach(peg) || !within(year, 0, LAST_YEAR) || repairs >= MOST_REPAIRS) {
                return false;
            }
            repairPeg[repairs] = peg;
            repairYear[repairs] = year;
            repairTold[repairs] = day;
            repairs++;
            return true;
        }

        /** How many years lime has grown in a reach, since digging or the latest repair. */
        int limeYears(int peg, int year, int known) {
            int since = 0;
            for (int i = 0; i < repairs; i++) {
                if (repairPeg[i] == peg && repairTold[i] <= known && repairYear[i] <= year) {
                    since = Math.max(since, repairYear[i]);
                }
            }
            return year - since;
        }
    }

    /** The old unit, in thousandths of a mm, by counts of it. */
    private static final class Measure {
        static final int MOST_COUNTS = 30;

        int counts = 0;
        int least = 0;
        int greatest = 2000000000;

        int addCount(int units, int low, int high) {
            if (counts >= MOST_COUNTS || !within(units, 1, 9999) || !ordered(low, high, 1, 2000000)) {
                return NONE;
            }
            int from = Math.max(least, (1000 * low + units - 1) / units);
            int to = Math.min(greatest, 1000 * high / units);
            if (from > to) {
                return NONE;
            }
            least = from;
            greatest = to;
            counts++;
            return counts;
        }
    }

    /** The bytes of a text, as they are fed, and the tokens that they make. */
    private static final class Tape {
        static final int MOST_BYTES = 400;
        static final int END = 0;
        static final int WORD = 1;
        static final int NUMBER = 2;
        static final int SEMICOLON = 3;
        static final int OPENING = 4;
        static final int CLOSING = 5;
        static final int STRANGE = 6;
        static final int BLANK = 7;
        // Above every number that a text may hold.
        static final int MANY = 1000000;

        final int[] bytes = new int[MOST_BYTES];
        // Of the tokens; the end of the text is the last one.
        final int[] kind = new int[MOST_BYTES + 1];
        final int[] place = new int[MOST_BYTES + 1];
        final int[] size = new int[MOST_BYTES + 1];
        final int[] number = new int[MOST_BYTES + 1];
        int length = 0;
        int tokens = 0;

        boolean hasRoom(int more) {
            return length + more <= MOST_BYTES;
        }

        void append(int four) {
            for (int shift = 24; shift >= 0; shift -= 8) {
                if (length < MOST_BYTES) {
                    bytes[length] = (four >>> shift) & 255;
                    length++;
                }
            }
        }

        void cut() {
            tokens = 0;
            for (int at = 0; at < length; at++) {
                int what = kindOf(byteAt(at));
                if (what != BLANK) {
                    if (!goesOn(what, at)) {
                        addToken(what, at);
                    }
                    lengthen(byteAt(at));
                }
            }
            addToken(END, length);
        }

        /** Whether a byte belongs to the token ahead of it. */
        private boolean goesOn(int what, int at) {
            int last = tokens - 1;
            if (what != WORD && what != NUMBER || !within(last, 0, MOST_BYTES)) {
                return false;
            }
            return kind[last] == what && place[last] + size[last] == at;
        }

        private void addToken(int what, int at) {
            if (tokens <= MOST_BYTES) {
                kind[tokens] = what;
                place[tokens] = at;
                size[tokens] = 0;
                number[tokens] = 0;
                tokens++;
            }
        }

        private void lengthen(int sign) {
            int last = tokens - 1;
            if (within(last, 0, MOST_BYTES)) {
                size[last]++;
                if (kind[last] == NUMBER) {
                    number[last] = Math.min(MANY, 10 * number[last] + sign - '0');
                }
            }
        }

        int byteAt(int i) {
            return i >= 0 && i < MOST_BYTES ? bytes[i] : 0;
        }

        boolean isWord(int token, String word) {
            if (!within(token, 0, tokens - 1) || kind[token] != WORD || size[token] != word.length()) {
                return false;
            }
            for (int i = 0; i < word.length(); i++) {
                if (byteAt(place[token] + i) != word.charAt(i)) {
                    return false;
                }
            }
            return true;
        }

        private static int kindOf(int sign) {
            if (within(sign, 'a', 'z') || within(sign, 'A', 'Z')) {
                return WORD;
            }
            if (within(sign, '0', '9')) {
                return NUMBER;
            }
            switch (sign) {
                case ' ': return BLANK;
                case '\n': return BLANK;
                case ';': return SEMICOLON;
                case '{': return OPENING;
                case '}': return CLOSING;
                default: return STRANGE;
            }
        }
    }

    /** A way of setting out, as a row of orders. */
    private static final class Way {
        static final int LINE = 0;
        static final int TURN = 1;
        static final int RISE = 2;
        static final int FALL = 3;
        static final int SHAFT = 4;
        static final int POLES = 5;
        static final int REPEAT = 6;
        static final int AGAIN = 7;
        static final int CALL = 8;
        static final int RETURN = 9;
        static final int SKIP = 10;
        static final int MOST_STEPS = 5000;
        // An order takes two bytes of a text at least.
        static final int MOST_ORDERS = Tape.MOST_BYTES / 2;

        final int[] kind = new int[MOST_ORDERS];
        final int[] value = new int[MOST_ORDERS];
        int size = 0;
        // Of a whole run; one above the most stands for all above it.
        int steps = 0;

        void add(int order, int number) {
            if (size < MOST_ORDERS) {
                kind[size] = order;
                value[size] = number;
                size++;
            }
        }
    }

    /** Reads a text, token by token, into a way, up to its first fault. */
    private static final class Reader {
        static final int MISPLACED = 1;
        static final int WRONG_NUMBER = 2;
        static final int TOO_DEEP = 3;
        static final int WRONG_LETTER = 4;

        static final int DEEPEST = 8;
        static final int LETTERS = 8;

        final Tape tape;
        Way draft = new Way();
        // Of the blocks that are open around one another; 0 is the text itself.
        final int[] blockStart = new int[DEEPEST + 1];
        final int[] blockTimes = new int[DEEPEST + 1];
        final int[] blockSteps = new int[DEEPEST + 1];
        // Of the letters that were told: NONE while they weren't.
        final int[] bodyStart = new int[LETTERS];
        final int[] bodySteps = new int[LETTERS];
        int depth = 0;
        int openLetter = NONE;
        int token = NONE;
        int kind = Tape.END;
        int place = 0;
        int number = 0;
        int parts = 0;
        int fault = NONE;
        int faultPlace = NONE;

        Reader(Tape text) {
            tape = text;
        }

        boolean read() {
            tape.cut();
            begin();
            for (int parted = 0; parted < tape.tokens && fault == 0; parted++) {
                nextToken();
                if (kind == Tape.END) {
                    break;
                }
                if (kind == Tape.CLOSING) {
                    closeBlock();
                } else {
                    readPart();
                }
            }
            if (fault == 0 && depth > 0) {
                fail(MISPLACED);
            }
            draft.steps = blockSteps[0];
            return fault == 0;
        }

        private void begin() {
            draft.size = 0;
            depth = 0;
            openLetter = NONE;
            token = NONE;
            parts = 0;
            fault = 0;
            faultPlace = NONE;
            blockSteps[0] = 0;
            for (int letter = 0; letter < LETTERS; letter++) {
                bodySteps[letter] = NONE;
            }
        }

        private void fail(int what) {
            if (fault == 0) {
                fault = what;
                faultPlace = place;
            }
        }

        private void readPart() {
            if (depth == 0) {
                parts++;
            }
            if (tape.isWord(token, "line")) {
                readStep(Way.LINE, 1, 9999);
            } else if (tape.isWord(token, "turn")) {
                readStep(Way.TURN, 1, 15);
            } else if (tape.isWord(token, "rise")) {
                readStep(Way.RISE, 0, 100000);
            } else if (tape.isWord(token, "fall")) {
                readStep(Way.FALL, 0, 100000);
            } else if (tape.isWord(token, "shaft")) {
                readBareStep(Way.SHAFT);
            } else if (tape.isWord(token, "poles")) {
                readBareStep(Way.POLES);
            } else if (tape.isWord(token, "do")) {
                readDo();
            } else if (tape.isWord(token, "repeat")) {
                readRepeat();
            } else if (tape.isWord(token, "def") && depth == 0) {
                readDef();
            } else {
                fail(MISPLACED);
            }
        }

        private void readStep(int order, int low, int high) {
            takeNumber(low, high);
            int value = number;
            take(Tape.SEMICOLON);
            draft.add(order, value);
            addSteps(1);
        }

        private void readBareStep(int order) {
            take(Tape.SEMICOLON);
            draft.add(order, 0);
            addSteps(1);
        }

        private void readDo() {
            int letter = takeLetter(true);
            take(Tape.SEMICOLON);
            // What holds no step is left out, so that it takes no time however often it is done.
            if (letter != NONE && bodySteps[letter] > 0) {
                draft.add(Way.CALL, bodyStart[letter]);
                addSteps(bodySteps[letter]);
            }
        }

        private void readRepeat() {
            takeNumber(1, 99);
            int times = number;
            takeOpening();
            if (fault == 0) {
                openBlock(times);
                // Once is what stands there: without an order of its own a run can't go in and out for long.
                if (times > 1) {
                    draft.add(Way.REPEAT, times);
                }
            }
        }

        private void readDef() {
            int letter = takeLetter(false);
            takeOpening();
            if (fault == 0) {
                openLetter = letter;
                openBlock(1);
                draft.add(Way.SKIP, 0);
            }
        }

        private void openBlock(int times) {
            if (depth < DEEPEST) {
                depth++;
                blockStart[depth] = draft.size;
                blockTimes[depth] = times;
                blockSteps[depth] = 0;
            }
        }

        private void closeBlock() {
            if (!within(depth, 1, DEEPEST)) {
                fail(MISPLACED);
                return;
            }
            int block = depth;
            depth--;
            if (blockSteps[block] == 0) {
                draft.size = blockStart[block];
            }
            if (depth == 0 && openLetter != NONE) {
                closeDef(block);
            } else if (blockSteps[block] > 0) {
                if (blockTimes[block] > 1) {
                    draft.add(Way.AGAIN, 0);
                }
                addSteps(blockTimes[block] * blockSteps[block]);
            }
        }

        private void closeDef(int block) {
            int skip = blockStart[block];
            if (blockSteps[block] > 0 && within(skip, 0, Way.MOST_ORDERS - 1)) {
                draft.add(Way.RETURN, 0);
                draft.value[skip] = draft.size;
            }
            if (within(openLetter, 0, LETTERS - 1)) {
                bodyStart[openLetter] = skip + 1;
                bodySteps[openLetter] = blockSteps[block];
            }
            openLetter = NONE;
        }

        private void addSteps(int more) {
            if (within(depth, 0, DEEPEST)) {
                blockSteps[depth] = Math.min(blockSteps[depth] + more, Way.MOST_STEPS + 1);
            }
        }

        private void take(int wanted) {
            if (fault == 0) {
                nextToken();
                if (kind != wanted) {
                    fail(MISPLACED);
                }
            }
        }

        private void takeNumber(int low, int high) {
            take(Tape.NUMBER);
            if (fault == 0 && !within(number, low, high)) {
                fail(WRONG_NUMBER);
            }
        }

        private void takeOpening() {
            take(Tape.OPENING);
            if (fault == 0 && depth >= DEEPEST) {
                fail(TOO_DEEP);
            }
        }

        /** The letter a .. h, from 0, that is there already (a do) or isn't yet (a def); NONE: none such. */
        private int takeLetter(boolean there) {
            take(Tape.WORD);
            int letter = fault == 0 ? letterHere() : NONE;
            if (!within(letter, 0, LETTERS - 1)) {
                fail(MISPLACED);
                return NONE;
            }
            boolean told = bodySteps[letter] != NONE;
            if (told != there) {
                fail(WRONG_LETTER);
                return NONE;
            }
            return letter;
        }

        private int letterHere() {
            if (!within(token, 0, tape.tokens - 1) || tape.size[token] != 1) {
                return NONE;
            }
            return tape.byteAt(place) - 'a';
        }

        private void nextToken() {
            if (token + 1 < tape.tokens) {
                token++;
                kind = tape.kind[token];
                place = tape.place[token];
                number = tape.number[token];
            }
        }
    }

    /** Goes a way order by order, with the errors of the tools. */
    private static final class Walk {
        static final long BEYOND = 100000000;
        // Blocks lie at most 8 deep in one another, of the text and of each of 8 letters.
        static final int MOST_OPEN = 80;
        // A repeat turns back twice at least, so that orders stay near the steps.
        static final int MOST_ORDERS_RUN = 1000000;
        static final int[] EAST = {1000, 924, 707, 383};
        static final int[] NORTH = {0, 383, 707, 924};

        final int[] openPlace = new int[MOST_OPEN];
        final int[] openTimes = new int[MOST_OPEN];
        int open = 0;
        int line = 5;
        int level = 3;
        int turn = 10;
        int shaft = 50;
        int poles = 4;
        long x = 0;
        long y = 0;
        long z = 0;
        long errorX = 0;
        long errorY = 0;
        long errorZ = 0;
        long askew = 0;
        int heading = 0;
        int steps = 0;
        boolean done = false;

        void take(int newLine, int newLevel, int newTurn, int newShaft, int newPoles) {
            line = newLine;
            level = newLevel;
            turn = newTurn;
            shaft = newShaft;
            poles = newPoles;
        }

        void go(Way way, int start) {
            begin(start);
            done = way.steps <= Way.MOST_STEPS;
            int at = 0;
            for (int orders = 0; orders < MOST_ORDERS_RUN && done; orders++) {
                if (!within(at, 0, way.size - 1) || at >= Way.MOST_ORDERS) {
                    return;
                }
                at = follow(way.kind[at], way.value[at], at);
            }
        }

        private void begin(int start) {
            open = 0;
            x = 0;
            y = 0;
            z = 0;
            errorX = 0;
            errorY = 0;
            errorZ = 0;
            askew = 0;
            heading = start;
            steps = 0;
        }

        /** Where the order behind this one stands. */
        private int follow(int kind, int value, int at) {
            switch (kind) {
                case Way.REPEAT:
                    push(at + 1, value);
                    return at + 1;
                case Way.AGAIN:
                    return turnBack(at);
                case Way.CALL:
                    push(at + 1, 0);
                    return value;
                case Way.RETURN:
                    return pop(at);
                case Way.SKIP:
                    return value;
                default:
                    step(kind, value);
                    return at + 1;
            }
        }

        private void push(int place, int times) {
            if (open < MOST_OPEN) {
                openPlace[open] = place;
                openTimes[open] = times;
                open++;
            } else {
                done = false;
            }
        }

        private int turnBack(int at) {
            int top = open - 1;
            if (!within(top, 0, MOST_OPEN - 1)) {
                return at + 1;
            }
            openTimes[top]--;
            if (openTimes[top] > 0) {
                return openPlace[top];
            }
            open--;
            return at + 1;
        }

        private int pop(int at) {
            int top = open - 1;
            if (!within(top, 0, MOST_OPEN - 1)) {
                return at + 1;
            }
            open--;
            return openPlace[top];
        }

        private void step(int kind, int n) {
            steps++;
            switch (kind) {
                case Way.LINE:
                    layLine(n);
                    break;
                case Way.TURN:
                    heading = (heading + n) % Runs.HEADINGS;
                    askew += turn;
                    break;
                case Way.RISE:
                    z += n;
                    break;
                case Way.FALL:
                    z -= n;
                    break;
                case Way.SHAFT:
                    errorX = Math.min(errorX, shaft);
                    errorY = Math.min(errorY, shaft);
                    askew = Math.min(askew, turn);
                    break;
                default:
                    askew = Math.min(askew, poles);
                    break;
            }
            done = staysNear();
        }

        private void layLine(int n) {
            int quarter = heading / 4;
            int east = EAST[heading % 4];
            int north = NORTH[heading % 4];
            for (int i = 0; i < quarter; i++) {
                int oldEast = east;
                east = -north;
                north = oldEast;
            }
            x += (long) n * east;
            y += (long) n * north;
            east = Math.abs(east);
            north = Math.abs(north);
            long along = ((long) n * line + 9) / 10;
            long aside = (n * askew + 9) / 10;
            errorX += (along * east + aside * north + 999) / 1000;
            errorY += (along * north + aside * east + 999) / 1000;
            errorZ += ((long) n * level + 9) / 10;
        }

        private boolean staysNear() {
            if (Math.abs(x) > BEYOND || Math.abs(y) > BEYOND || Math.abs(z) > BEYOND) {
                return false;
            }
            return errorX <= BEYOND && errorY <= BEYOND && errorZ <= BEYOND && askew <= BEYOND;
        }
    }

    /** The ways that were told, and what their runs came to, each run once. */
    private static final class Runs {
        static final int WAYS = 6;
        static final int HEADINGS = 16;
        static final int ANSWERS = 9;
        static final int ERRORS = 3;

        final Walk walk = new Walk();
        final Way[] told = new Way[WAYS];
        // By starts: 16 way + heading.
        final boolean[] kept = new boolean[WAYS * HEADINGS];
        final int[] answers = new int[WAYS * HEADINGS * ANSWERS];

        boolean hasPlace(int way) {
            return way >= 0 && way < WAYS;
        }

        boolean isTold(int way) {
            return hasPlace(way) && told[way] != null;
        }

        int toldWays() {
            int set = 0;
            for (int way = 0; way < WAYS; way++) {
                if (isTold(way)) {
                    set |= 1 << way;
                }
            }
            return set;
        }

        /** Takes a way in and gives back one that may be written over. */
        Way replace(int way, Way fresh) {
            if (!hasPlace(way)) {
                return fresh;
            }
            Way former = told[way];
            told[way] = fresh;
            for (int heading = 0; heading < HEADINGS; heading++) {
                kept[HEADINGS * way + heading] = false;
            }
            return former == null ? new Way() : former;
        }

        void forgetAll() {
            for (int start = 0; start < WAYS * HEADINGS; start++) {
                kept[start] = false;
            }
        }

        /** Makes a run, if it wasn't made; false without such a way. */
        boolean make(int start) {
            if (start < 0 || !isTold(start / HEADINGS)) {
                return false;
            }
            if (!kept[start]) {
                walk.go(told[start / HEADINGS], start % HEADINGS);
                keep(start * ANSWERS);
                kept[start] = true;
            }
            return true;
        }

        private void keep(int at) {
            if (!walk.done) {
                for (int what = 0; what < ANSWERS; what++) {
                    answers[at + what] = FREE;
                }
                return;
            }
            answers[at] = (int) walk.x;
            answers[at + 1] = (int) walk.y;
            answers[at + 2] = (int) walk.z;
            answers[at + 3] = (int) walk.errorX;
            answers[at + 4] = (int) walk.errorY;
            answers[at + 5] = (int) walk.errorZ;
            answers[at + 6] = (int) walk.askew;
            answers[at + 7] = walk.heading;
            answers[at + 8] = walk.steps;
        }

        /** Of a run that was made; FREE, if it isn't done. */
        int answer(int start, int what) {
            int at = start * ANSWERS + what;
            return within(at, 0, WAYS * HEADINGS * ANSWERS - 1) ? answers[at] : FREE;
        }
    }

    /** Where two runs can meet, and whether what is there fits. */
    private static final class Meetings {
        static final int FITTING = 0;
        static final int RULED_OUT = 1;
        static final int OPEN = 2;

        final Survey survey;
        final Runs runs;
        final int[] thereLow = new int[AXES];
        final int[] thereHigh = new int[AXES];
        final int[] gapLow = new int[AXES];
        final int[] gapHigh = new int[AXES];

        Meetings(Survey sights, Runs made) {
            survey = sights;
            runs = made;
        }

        void seen(int axis, int low, int high) {
            if (isAxis(axis)) {
                thereLow[axis] = low;
                thereHigh[axis] = high;
            }
        }

        /** Takes the gaps of both stations on each axis, for what is asked next. */
        void look(int from, int to, int day) {
            for (int axis = 0; axis < AXES; axis++) {
                gapLow[axis] = survey.bound(axis, from, to, day, false);
                gapHigh[axis] = survey.bound(axis, from, to, day, true);
            }
        }

        int bound(int first, int second, int axis, boolean high) {
            if (!isAxis(axis)) {
                return FREE;
            }
            int gap = high ? gapHigh[axis] : gapLow[axis];
            int here = runs.answer(first, axis);
            int beyond = runs.answer(second, axis);
            if (gap == FREE || here == FREE || beyond == FREE) {
                return FREE;
            }
            int error = runs.answer(first, Runs.ERRORS + axis) + runs.answer(second, Runs.ERRORS + axis);
            return gap + beyond - here + (high ? error : -error);
        }

        int judge(int first, int second) {
            int verdict = FITTING;
            for (int axis = 0; axis < AXES; axis++) {
                int least = bound(first, second, axis, false);
                int greatest = bound(first, second, axis, true);
                if (least == FREE || greatest == FREE) {
                    return OPEN;
                }
                if (least > thereHigh[axis] || greatest < thereLow[axis]) {
                    verdict = RULED_OUT;
                }
            }
            return verdict;
        }

        int pairs(int headingA, int headingB, int verdict) {
            int number = 0;
            for (int a = 0; a < Runs.WAYS; a++) {
                for (int b = 0; b < Runs.WAYS; b++) {
                    int first = Runs.HEADINGS * a + headingA;
                    int second = Runs.HEADINGS * b + headingB;
                    if (runs.make(first) && runs.make(second) && judge(first, second) == verdict) {
                        number++;
                    }
                }
            }
            return number;
        }
    }

    /** Two faces that seek each other by sound. */
    private static final class Search {
        // 20 to the side and 40 steps, and one place more on each side.
        static final int MIDDLE = 61;
        static final int PLACES = 2 * MIDDLE + 1;

        final int[] weights = {1, 1, 1};
        // By where the one face is to the side: all rows of steps so far.
        long[] rows = new long[PLACES];
        long[] nextRows = new long[PLACES];
        int hearing = 0;
        int pulling = 0;
        int width = 0;

        void weigh(int left, int none, int right) {
            weights[0] = left;
            weights[1] = none;
            weights[2] = right;
        }

        void hear(int from, int by, int wide) {
            hearing = from;
            pulling = by;
            width = wide;
        }

        long share(int ahead, int off, boolean lower) {
            startAt(off, 0, 1);
            for (int left = ahead - 1; left >= 0; left--) {
                clearNext(0);
                for (int place = 1; place < PLACES - 1; place++) {
                    spread(place, left);
                }
                swap();
            }
            long missing = 0;
            long all = 0;
            for (int place = 0; place < PLACES; place++) {
                all += rows[place];
                missing += misses(place) ? rows[place] : 0;
            }
            long divisor = commonDivisor(all, missing);
            if (divisor <= 0) {
                return NONE;
            }
            return (lower ? all : missing) / divisor;
        }

        int roundabout(int ahead, int off, boolean high) {
            startAt(off, NONE, 0);
            for (int left = ahead - 1; left >= 0; left--) {
                clearNext(NONE);
                for (int place = 1; place < PLACES - 1; place++) {
                    prolong(place, left, high);
                }
                swap();
            }
            long best = NONE;
            for (int place = 0; place < PLACES; place++) {
                if (!misses(place)) {
                    best = better(best, rows[place], high);
                }
            }
            return (int) best;
        }

        private void startAt(int off, long elsewhere, long here) {
            for (int place = 0; place < PLACES; place++) {
                rows[place] = place == MIDDLE + off ? here : elsewhere;
            }
        }

        private void clearNext(long value) {
            for (int place = 0; place < PLACES; place++) {
                nextRows[place] = value;
            }
        }

        private void swap() {
            long[] former = rows;
            rows = nextRows;
            nextRows = former;
        }

        private void spread(int place, int left) {
            if (rows[place] == 0) {
                return;
            }
            for (int side = 0; side < 3; side++) {
                int goal = pulled(place + side - 1, left);
                nextRows[goal] += weights[side] * rows[place];
            }
        }

        private void prolong(int place, int left, boolean high) {
            if (rows[place] == NONE) {
                return;
            }
            for (int side = 0; side < 3; side++) {
                if (weights[side] > 0) {
                    int goal = pulled(place + side - 1, left);
                    long sum = rows[place] + Math.abs(goal - MIDDLE);
                    nextRows[goal] = better(nextRows[goal], sum, high);
                }
            }
        }

        private static long better(long one, long other, boolean high) {
            if (one == NONE || other == NONE) {
                return Math.max(one, other);
            }
            return high ? Math.max(one, other) : Math.min(one, other);
        }

        private int pulled(int place, int left) {
            int off = place - MIDDLE;
            if (left <= hearing) {
                off = off > 0 ? Math.max(0, off - pulling) : Math.min(0, off + pulling);
            }
            return Math.max(0, Math.min(PLACES - 1, MIDDLE + off));
        }

        private boolean misses(int place) {
            return Math.abs(place - MIDDLE) > width;
        }

        private static long commonDivisor(long first, long second) {
            long a = first;
            long b = second;
            // Two divisions halve a number at least.
            for (int i = 0; i < 200 && b > 0; i++) {
                long rest = a % b;
                a = b;
                b = rest;
            }
            return a;
        }
    }

    /** What water could flow through a gallery, by falls, lime and repairs. */
    private static final class Channel {
        static final int CLASSES = 10;

        final Survey survey;
        final int[] rowOfClass = new int[CLASSES];
        int growth = 0;
        int leastLet = NONE;

        Channel(Survey sights) {
            survey = sights;
            for (int klass = 0; klass < CLASSES; klass++) {
                rowOfClass[klass] = 10 * klass;
            }
        }

        boolean setRow(int klass, int value) {
            if (!within(klass, 0, CLASSES - 1) || !within(value, 0, 1000)) {
                return false;
            }
            rowOfClass[klass] = value;
            return true;
        }

        int rowOf(int klass) {
            return within(klass, 0, CLASSES - 1) ? rowOfClass[klass] : NONE;
        }

        /** The first reach that lets least, by its end's peg; what it lets is kept. */
        int tightest(Gallery dug, int year, int known, boolean high) {
            int tight = NONE;
            for (int peg = 1; peg < dug.pegs; peg++) {
                int lets = letThrough(dug, peg, year, known, high);
                if (lets == NONE) {
                    return NONE;
                }
                if (tight == NONE || lets < leastLet) {
                    tight = peg;
                    leastLet = lets;
                }
            }
            return tight;
        }

        private int letThrough(Gallery dug, int peg, int year, int known, boolean high) {
            if (!dug.hasReach(peg)) {
                return NONE;
            }
            int upper = dug.stationOf[peg - 1];
            int lower = dug.stationOf[peg];
            int length = high ? dug.low[peg] : dug.high[peg];
            if (upper == NONE || lower == NONE || length <= 0) {
                return NONE;
            }
            int fall = survey.bound(UPRIGHT, lower, upper, known, high);
            if (fall == FREE) {
                return NONE;
            }
            long thousandths = Math.floorDiv(1000L * fall, (long) length);
            int lime = growth * dug.limeYears(peg, year, known) / 100;
            int open = Math.max(0, dug.width[peg] - 2 * lime);
            return rowOfClass[classOf(thousandths)] * open / 100;
        }

        private static int classOf(long thousandths) {
            return thousandths < 1 ? 0 : (int) Math.min(CLASSES - 1, 1 + thousandths / 2);
        }
    }
}
