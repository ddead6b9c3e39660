import java.util.Arrays;

/**
 * A needle house: a magnetic observatory with two sets of three traces.
 * The words written LARGE in the comments are the terms of DOC.md; there
 * "ahead" means earlier and "behind" means later.
 */
public final class NeedleHouse {
    public static final int NONE = -1;
    public static final int LOST = -2000000000;

    private static final int SETS = 2;
    private static final int TRACES = 3;
    private static final int TIMES = 300;
    private static final int GREATEST_READING = 30000;
    private static final int GREATEST_SHIFT = 60000;
    private static final int GREATEST_POSITION = 100000;
    private static final int GREATEST_END = 1000;
    private static final int FIRST_END = 3;
    private static final int MOST_MEASURES = 20;
    private static final int MOST_TRAINS = 10;
    private static final int LEAST_WINDOW = 2;
    private static final int GREATEST_WINDOW = 60;
    private static final int MOST_WINDOWS = TIMES / LEAST_WINDOW;
    private static final int MOST_CLAUSES = 12;
    private static final int MOST_STEPS = 9;
    private static final int GREATEST_NUMBER = 10000;
    private static final int TAPE_LENGTH = 300;
    private static final int FEED_LENGTH = 20;

    private final Track[] tracks;
    private final RuleReader reader;
    private final Tape tape;
    private final Rule ruling;
    private final Rule draft;
    private final Trains trains;
    private final Windows windows;
    private int endNow;
    private int timesPublished;

    public NeedleHouse() {
        tracks = new Track[TRACES];
        for (int i = 0; i < tracks.length; i++) {
            tracks[i] = new Track();
        }
        reader = new RuleReader();
        tape = reader.tape;
        ruling = new Rule();
        draft = new Rule();
        trains = new Trains();
        windows = new Windows();
        endNow = FIRST_END;
        timesPublished = 0;
    }

    public int read(int set, int trace, int value) throws IndexOutOfBoundsException, IllegalArgumentException {
        Track track = trackIn(set, trace);
        demand(within(value, -GREATEST_READING, GREATEST_READING));
        track.unsettle();
        return track.rowOf(set).add(value);
    }

    public int lost(int set, int trace, int many) throws IndexOutOfBoundsException, IllegalArgumentException {
        Track track = trackIn(set, trace);
        demand(within(many, 1, TIMES));
        track.unsettle();
        return track.rowOf(set).addLost(many);
    }

    public int at(int set, int trace, int time) throws IndexOutOfBoundsException {
        return trackIn(set, trace).rowOf(set).reading(time);
    }

    public int shift(int set, int trace, int from, int by) throws IndexOutOfBoundsException, IllegalArgumentException {
        Track track = trackIn(set, trace);
        demand(from >= 0 && within(by, -GREATEST_SHIFT, GREATEST_SHIFT));
        track.unsettle();
        return track.rowOf(set).move(from, by);
    }

    public int jump(int set, int trace, int k) throws IndexOutOfBoundsException {
        return trackIn(set, trace).jumpTime(set, k, ruling.limit);
    }

    public int joined(int trace, int time) throws IndexOutOfBoundsException {
        return settled(trace).joinedAt(time);
    }

    public int end(int end) throws IllegalArgumentException {
        demand(within(end, 0, GREATEST_END));
        int was = endNow;
        endNow = end;
        return was;
    }

    public int measure(int trace, int time, int a, int b, int c, int d)
            throws IndexOutOfBoundsException, IllegalArgumentException {
        Track track = trackOf(trace);
        demand(within(time, 0, TIMES - 1) && isPosition(a) && isPosition(b) && isPosition(c) && isPosition(d));
        track.unsettle();
        int mean = Math.floorDiv(a + b + c + d, 4);
        int left = Math.abs(a + b - c - d);
        return track.measures.add(time, mean, left, endNow);
    }

    public int told(int trace, int measure, int what) throws IndexOutOfBoundsException, IllegalArgumentException {
        Track track = settled(trace);
        demand(within(what, 0, 4));
        if (what == 4) {
            return track.pointOf(measure);
        }
        return track.measures.tell(measure, what);
    }

    public int pieces(int trace) throws IndexOutOfBoundsException {
        return settled(trace).pieces.size();
    }

    public int piece(int trace, int k, int what) throws IndexOutOfBoundsException, IllegalArgumentException {
        Track track = settled(trace);
        demand(within(what, 0, 3));
        return track.pieces.tell(k, what);
    }

    public int baseline(int trace, int time) throws IndexOutOfBoundsException {
        return settled(trace).pieces.height(time);
    }

    public int value(int trace, int time) throws IndexOutOfBoundsException {
        return settled(trace).finalAt(time);
    }

    public int feed(int a, int b, int c, int d, int e) {
        if (!tape.hasRoom(FEED_LENGTH)) {
            return NONE;
        }
        tape.put(a);
        tape.put(b);
        tape.put(c);
        tape.put(d);
        tape.put(e);
        return tape.size();
    }

    public int rule(int n) throws IllegalArgumentException {
        demand(within(n, 0, tape.size()));
        boolean taken = reader.readInto(draft, n);
        tape.empty();
        if (!taken) {
            return reader.faultKind() - 10;
        }
        ruling.become(draft);
        return ruling.clauses;
    }

    public int fault() {
        return reader.faultPlace();
    }

    public int train(int from, int times) throws IllegalArgumentException {
        demand(within(from, 0, TIMES - 1) && within(times, 1, TIMES));
        return trains.add(from, times);
    }

    public int range(int trace, int window) throws IndexOutOfBoundsException {
        Track track = settled(trace);
        if (!within(window, 0, windowsNow() - 1)) {
            return NONE;
        }
        return track.rangeIn(window, ruling, trains);
    }

    public int index(int window) {
        layWindows();
        return windows.indexOf(window);
    }

    public int storm(int k, int what) throws IllegalArgumentException {
        demand(within(what, 0, 1));
        layWindows();
        int first = windows.stormStart(k, ruling.storm);
        if (first == NONE || what == 0) {
            return first;
        }
        return windows.stormLength(first, ruling.storm);
    }

    public int quiet(int k) {
        layWindows();
        return windows.quietWindow(k);
    }

    public int publish() {
        int there = 0;
        for (int i = 0; i < tracks.length; i++) {
            there += settled(i).keepFinals();
        }
        timesPublished++;
        return there;
    }

    public int changed(int trace, int k) throws IndexOutOfBoundsException {
        Track track = settled(trace);
        if (timesPublished == 0) {
            return NONE;
        }
        return track.changeTime(k);
    }

    public int published(int trace, int time) throws IndexOutOfBoundsException {
        return trackOf(trace).keptAt(time);
    }

    public int count(int what) {
        switch (what) {
            case 0:
                return timesNow();
            case 1:
                return windowsNow();
            case 2:
                return trains.size();
            case 3:
                return ruling.clauses;
            case 4:
                return tape.size();
            case 5:
                return timesPublished;
            default:
                return NONE;
        }
    }

    private Track trackIn(int set, int trace) {
        if (!within(set, 0, SETS - 1)) {
            throw new IndexOutOfBoundsException("no such SET");
        }
        return trackOf(trace);
    }

    private Track trackOf(int trace) {
        if (trace < 0 || trace >= tracks.length) {
            throw new IndexOutOfBoundsException("no such TRACE");
        }
        return tracks[trace];
    }

    /** The TRACE with JOINED, PIECES and FINAL as they are now. */
    private Track settled(int trace) {
        Track track = trackOf(trace);
        track.settle(ruling.near);
        return track;
    }

    private int timesNow() {
        int most = 0;
        for (int i = 0; i < tracks.length; i++) {
            most = Math.max(most, tracks[i].times());
        }
        return most;
    }

    private int windowsNow() {
        return ruling.windowsBelow(timesNow());
    }

    private void layWindows() {
        windows.clear(windowsNow());
        for (int i = 0; i < tracks.length; i++) {
            windows.takeRanges(settled(i), ruling, trains);
        }
        windows.turnRangesToIndices(ruling);
    }

    private static void demand(boolean holds) {
        if (!holds) {
            throw new IllegalArgumentException("an argument is outside its bounds");
        }
    }

    private static boolean within(int number, int least, int greatest) {
        return number >= least && number <= greatest;
    }

    private static boolean isPosition(int number) {
        return within(number, -GREATEST_POSITION, GREATEST_POSITION);
    }

    /** The readings of one SET in one TRACE; LOST where there is none yet. */
    private static final class Row {
        private final int[] readings;
        private int size;

        Row() {
            readings = new int[TIMES];
            Arrays.fill(readings, LOST);
            size = 0;
        }

        int size() {
            return size;
        }

        int add(int reading) {
            if (size >= readings.length) {
                return NONE;
            }
            readings[size] = reading;
            size++;
            return size;
        }

        int addLost(int many) {
            if (many > readings.length - size) {
                return NONE;
            }
            size += many;
            return size;
        }

        int reading(int time) {
            if (time < 0 || time >= readings.length) {
                return LOST;
            }
            return readings[time];
        }

        int move(int from, int by) {
            if (from < 0 || !canMove(from, by)) {
                return NONE;
            }
            int moved = 0;
            for (int time = from; time < readings.length; time++) {
                if (readings[time] != LOST) {
                    readings[time] += by;
                    moved++;
                }
            }
            return moved;
        }

        private boolean canMove(int from, int by) {
            for (int time = from; time < readings.length; time++) {
                int there = reading(time);
                if (there != LOST && !within(there + by, -GREATEST_READING, GREATEST_READING)) {
                    return false;
                }
            }
            return true;
        }

        /** How far the reading is from the one ahead; NONE, if one of them is not there. */
        int step(int time) {
            int here = reading(time);
            int ahead = reading(time - 1);
            if (here == LOST || ahead == LOST) {
                return NONE;
            }
            return Math.abs(here - ahead);
        }
    }

    /** The MEASURES of one TRACE, at rising TIMES. */
    private static final class Measures {
        private final int[] times;
        private final int[] means;
        private final int[] lefts;
        private final int[] ends;
        private int size;

        Measures() {
            times = new int[MOST_MEASURES];
            means = new int[MOST_MEASURES];
            lefts = new int[MOST_MEASURES];
            ends = new int[MOST_MEASURES];
            size = 0;
        }

        int size() {
            return size;
        }

        int add(int time, int mean, int left, int end) {
            if (size >= MOST_MEASURES) {
                return -1;
            }
            if (size > 0 && times[size - 1] >= time) {
                return -2;
            }
            times[size] = time;
            means[size] = mean;
            lefts[size] = left;
            ends[size] = end;
            size++;
            return size - 1;
        }

        /** What a MEASURE has: 0 TIME, 1 MEAN, 2 LEFT, 3 END; LOST without it. */
        int tell(int measure, int what) {
            if (measure < 0 || measure >= size) {
                return LOST;
            }
            switch (what) {
                case 0:
                    return times[measure];
                case 1:
                    return means[measure];
                case 2:
                    return lefts[measure];
                case 3:
                    return ends[measure];
                default:
                    return LOST;
            }
        }
    }

    /**
     * The PIECES of one TRACE, laid greedily through its POINTS.
     * A POINT is held as the strip between the lowest and the highest that a
     * line may have at its TIME; a line at TIME t is
     * (2 * upper * t + middles) / (2 * lower), so that all is exact.
     */
    private static final class Pieces {
        private final int[] times;
        private final int[] lows;
        private final int[] highs;
        private int points;

        private final int[] firsts;
        private final int[] lengths;
        private final int[] uppers;
        private final int[] lowers;
        private final long[] middles;
        private int size;

        // the least and the greatest slope of the PIECE in hand
        private long leastUpper;
        private long leastLower;
        private long mostUpper;
        private long mostLower;

        Pieces() {
            times = new int[MOST_MEASURES];
            lows = new int[MOST_MEASURES];
            highs = new int[MOST_MEASURES];
            firsts = new int[MOST_MEASURES];
            lengths = new int[MOST_MEASURES];
            uppers = new int[MOST_MEASURES];
            lowers = new int[MOST_MEASURES];
            middles = new long[MOST_MEASURES];
            points = 0;
            size = 0;
        }

        int size() {
            return size;
        }

        void clear() {
            points = 0;
            size = 0;
        }

        void addPoint(int time, int point, int end) {
            if (points >= MOST_MEASURES) {
                return;
            }
            times[points] = time;
            lows[points] = point - end;
            highs[points] = point + end;
            points++;
        }

        void lay() {
            int first = 0;
            for (int k = 0; k < MOST_MEASURES && first < points; k++) {
                int after = first + 1;
                while (after < points && fits(first, after + 1)) {
                    after++;
                }
                keepPiece(k, first, after);
                first = after;
            }
        }

        /**
         * Whether one line goes through all strips of first to after - 1. A line
         * does, if its slope suits each two of them: so the slopes are those
         * between the greatest least one and the least greatest one of all pairs.
         */
        private boolean fits(int first, int after) {
            boolean any = false;
            for (int i = first; i < after; i++) {
                for (int j = i + 1; j < after; j++) {
                    long run = times[j] - times[i];
                    long least = lows[j] - highs[i];
                    long most = highs[j] - lows[i];
                    if (!any || least * leastLower > leastUpper * run) {
                        leastUpper = least;
                        leastLower = run;
                    }
                    if (!any || most * mostLower < mostUpper * run) {
                        mostUpper = most;
                        mostLower = run;
                    }
                    any = true;
                }
            }
            return !any || leastUpper * mostLower <= mostUpper * leastLower;
        }

        private void keepPiece(int k, int first, int after) {
            fits(first, after);
            long upper = 0;
            long lower = 1;
            if (after - first > 1 && leastUpper > 0) {
                upper = leastUpper;
                lower = leastLower;
            } else if (after - first > 1 && mostUpper < 0) {
                upper = mostUpper;
                lower = mostLower;
            }
            long common = commonDivisor(Math.abs(upper), lower);
            if (common > 1) {
                upper /= common;
                lower /= common;
            }
            firsts[k] = times[first];
            lengths[k] = after - first;
            uppers[k] = (int) upper;
            lowers[k] = (int) lower;
            middles[k] = middleOf(first, after, upper, lower);
            size = k + 1;
        }

        /** Lowest and highest line of that slope together, at TIME 0, times lower. */
        private long middleOf(int first, int after, long upper, long lower) {
            long lowest = lows[first] * lower - upper * times[first];
            long highest = highs[first] * lower - upper * times[first];
            for (int i = first + 1; i < after; i++) {
                lowest = Math.max(lowest, lows[i] * lower - upper * times[i]);
                highest = Math.min(highest, highs[i] * lower - upper * times[i]);
            }
            return lowest + highest;
        }

        private static long commonDivisor(long a, long b) {
            long left = a;
            long right = b;
            // Euclid's steps shrink fast: 64 are more than numbers of this size need
            for (int step = 0; step < 64 && right != 0; step++) {
                long rest = left % right;
                left = right;
                right = rest;
            }
            return left;
        }

        /** BASELINE; LOST without. */
        int height(int time) {
            if (size == 0 || time < 0 || time >= TIMES) {
                return LOST;
            }
            int k = 0;
            while (k + 1 < size && firsts[k + 1] <= time) {
                k++;
            }
            if (lowers[k] < 1) {
                return LOST;
            }
            return (int) Math.floorDiv(2L * uppers[k] * time + middles[k], 2L * lowers[k]);
        }

        /** What a PIECE has: 0 first TIME, 1 POINTS, 2 and 3 its slope; LOST without it. */
        int tell(int k, int what) {
            if (k < 0 || k >= size) {
                return LOST;
            }
            switch (what) {
                case 0:
                    return firsts[k];
                case 1:
                    return lengths[k];
                case 2:
                    return uppers[k];
                case 3:
                    return lowers[k];
                default:
                    return LOST;
            }
        }
    }

    /** One TRACE: its rows, its MEASURES, and what follows from them and from NEAR. */
    private static final class Track {
        private final Row row0;
        private final Row row1;
        private final Measures measures;
        private final Pieces pieces;
        private final int[] joins;
        private final int[] finals;
        private final int[] kept;
        // NONE, while what follows has still to be laid anew
        private int settledNear;

        Track() {
            row0 = new Row();
            row1 = new Row();
            measures = new Measures();
            pieces = new Pieces();
            joins = new int[TIMES];
            finals = new int[TIMES];
            kept = new int[TIMES];
            Arrays.fill(joins, LOST);
            Arrays.fill(finals, LOST);
            Arrays.fill(kept, LOST);
            settledNear = NONE;
        }

        Row rowOf(int set) {
            return set == 0 ? row0 : row1;
        }

        int times() {
            return Math.max(row0.size(), row1.size());
        }

        void unsettle() {
            settledNear = NONE;
        }

        void settle(int near) {
            if (settledNear == near) {
                return;
            }
            // rows never grow shorter: behind the longer one all stays LOST
            int many = Math.min(times(), TIMES);
            int ahead = LOST;
            for (int time = 0; time < many; time++) {
                ahead = join(row0.reading(time), row1.reading(time), ahead, near);
                joins[time] = ahead;
            }
            takePoints();
            pieces.lay();
            for (int time = 0; time < many; time++) {
                finals[time] = together(joinedAt(time), time);
            }
            settledNear = near;
        }

        private static int join(int reading0, int reading1, int ahead, int near) {
            if (reading0 == LOST) {
                return reading1;
            }
            if (reading1 == LOST) {
                return reading0;
            }
            if (Math.abs(reading0 - reading1) <= near) {
                return Math.floorDiv(reading0 + reading1, 2);
            }
            if (ahead != LOST && Math.abs(reading1 - ahead) < Math.abs(reading0 - ahead)) {
                return reading1;
            }
            return reading0;
        }

        private void takePoints() {
            pieces.clear();
            for (int measure = 0; measure < measures.size(); measure++) {
                int point = pointOf(measure);
                if (point != LOST) {
                    pieces.addPoint(measures.tell(measure, 0), point, measures.tell(measure, 3));
                }
            }
        }

        private int together(int join, int time) {
            int height = join == LOST ? LOST : pieces.height(time);
            return height == LOST ? LOST : join + height;
        }

        int joinedAt(int time) {
            if (time < 0 || time >= joins.length) {
                return LOST;
            }
            return joins[time];
        }

        int pointOf(int measure) {
            int join = joinedAt(measures.tell(measure, 0));
            return join == LOST ? LOST : measures.tell(measure, 1) - join;
        }

        int finalAt(int time) {
            if (time < 0 || time >= finals.length) {
                return LOST;
            }
            return finals[time];
        }

        int jumpTime(int set, int k, int limit) {
            Row own = rowOf(set);
            Row other = rowOf(1 - set);
            int found = 0;
            for (int time = 1; time < TIMES; time++) {
                int otherStep = other.step(time);
                if (own.step(time) > limit && otherStep != NONE && otherStep <= limit) {
                    if (found == k) {
                        return time;
                    }
                    found++;
                }
            }
            return NONE;
        }

        int rangeIn(int window, Rule rule, Trains trains) {
            int from = window * rule.window;
            int asked = 0;
            int least = 0;
            int greatest = 0;
            for (int time = from; time < from + rule.window; time++) {
                int here = finalAt(time);
                if (here == LOST || trains.goBy(time)) {
                    continue;
                }
                least = asked == 0 ? here : Math.min(least, here);
                greatest = asked == 0 ? here : Math.max(greatest, here);
                asked++;
            }
            if (asked == 0 || asked * rule.shareOf < rule.window * rule.share) {
                return NONE;
            }
            return greatest - least;
        }

        /** FINAL becomes PUBLISHED: how many are not LOST. */
        int keepFinals() {
            int there = 0;
            for (int time = 0; time < kept.length; time++) {
                kept[time] = finalAt(time);
                if (kept[time] != LOST) {
                    there++;
                }
            }
            return there;
        }

        int keptAt(int time) {
            if (time < 0 || time >= kept.length) {
                return LOST;
            }
            return kept[time];
        }

        int changeTime(int k) {
            int found = 0;
            for (int time = 0; time < TIMES; time++) {
                if (finalAt(time) != keptAt(time)) {
                    if (found == k) {
                        return time;
                    }
                    found++;
                }
            }
            return NONE;
        }
    }

    /** What a RULE tells. */
    private static final class Rule {
        private int limit;
        private int near;
        private int share;
        private int shareOf;
        private int window;
        private int storm;
        private final int[] steps;
        private int stepCount;
        private int clauses;

        Rule() {
            steps = new int[MOST_STEPS];
            reset();
        }

        /** As it is without CLAUSES. */
        void reset() {
            limit = 50;
            near = 5;
            share = 1;
            shareOf = 2;
            window = 10;
            storm = 5;
            clauses = 0;
            clearSteps();
            addStep(5);
            addStep(10);
            addStep(20);
            addStep(40);
            addStep(70);
            addStep(120);
            addStep(200);
            addStep(330);
            addStep(500);
        }

        void become(Rule other) {
            limit = other.limit;
            near = other.near;
            share = other.share;
            shareOf = other.shareOf;
            window = other.window;
            storm = other.storm;
            clauses = other.clauses;
            stepCount = other.stepCount;
            System.arraycopy(other.steps, 0, steps, 0, MOST_STEPS);
        }

        void clearSteps() {
            stepCount = 0;
        }

        void addStep(int step) {
            if (stepCount < MOST_STEPS) {
                steps[stepCount] = step;
                stepCount++;
            }
        }

        int stepsUpTo(int range) {
            int reached = 0;
            for (int i = 0; i < stepCount; i++) {
                if (steps[i] <= range) {
                    reached++;
                }
            }
            return reached;
        }

        int windowsBelow(int times) {
            return window < LEAST_WINDOW ? 0 : times / window;
        }
    }

    /** The bytes that the next RULE is taken from. */
    private static final class Tape {
        private final int[] bytes;
        private int size;

        Tape() {
            bytes = new int[TAPE_LENGTH];
            size = 0;
        }

        int size() {
            return size;
        }

        boolean hasRoom(int many) {
            return size <= bytes.length - many;
        }

        void put(int word) {
            for (int drop = 24; drop >= 0; drop -= 8) {
                if (size < bytes.length) {
                    bytes[size] = (word >>> drop) & 255;
                    size++;
                }
            }
        }

        void empty() {
            size = 0;
        }

        int byteAt(int place) {
            if (place < 0 || place >= size) {
                return NONE;
            }
            return bytes[place];
        }
    }

    /** Reads a RULE from the TAPE up to its first FAULT. */
    private static final class RuleReader {
        private static final int WRONG_PLACE = 1;
        private static final int WRONG_NUMBER = 2;
        private static final int TOO_MANY = 3;

        private static final int LIMIT = 0;
        private static final int NEAR = 1;
        private static final int SHARE = 2;
        private static final int WINDOW = 3;
        private static final int STORM = 4;
        private static final int INDEX = 5;

        private final Tape tape;
        private int length;
        private int place;
        private int numberPlace;
        private int faultKind;
        private int faultPlace;

        RuleReader() {
            tape = new Tape();
            length = 0;
            place = 0;
            numberPlace = 0;
            faultKind = 0;
            faultPlace = NONE;
        }

        /** The FAULT of the latest RULE: 1 to 3; 0 without. */
        int faultKind() {
            return faultKind;
        }

        int faultPlace() {
            return faultPlace;
        }

        /** Whether the first n bytes are a RULE, which the draft then holds. */
        boolean readInto(Rule draft, int n) {
            length = n;
            place = 0;
            faultKind = 0;
            faultPlace = NONE;
            draft.reset();
            boolean good = true;
            skipBlanks();
            // a CLAUSE too many is a FAULT, so no good text is left when the bound ends the loop
            for (int i = 0; i <= MOST_CLAUSES && good && place < length; i++) {
                good = readClause(draft);
                skipBlanks();
            }
            return good;
        }

        private boolean readClause(Rule draft) {
            int from = place;
            int kind = readKind();
            if (kind == NONE) {
                return refuse(WRONG_PLACE, from);
            }
            if (draft.clauses >= MOST_CLAUSES) {
                return refuse(TOO_MANY, from);
            }
            boolean good = kind == INDEX ? readSteps(draft)
                    : kind == SHARE ? readShare(draft)
                    : readSetting(kind, draft);
            if (!good) {
                return false;
            }
            skipBlanks();
            if (look() != ';') {
                return refuse(WRONG_PLACE, place);
            }
            place++;
            draft.clauses++;
            return true;
        }

        private int readKind() {
            int from = place;
            skipLetters();
            if (spells("limit", from)) {
                return LIMIT;
            }
            if (spells("near", from)) {
                return NEAR;
            }
            if (spells("share", from)) {
                return SHARE;
            }
            if (spells("window", from)) {
                return WINDOW;
            }
            if (spells("storm", from)) {
                return STORM;
            }
            if (spells("index", from)) {
                return INDEX;
            }
            return NONE;
        }

        private boolean readSetting(int kind, Rule draft) {
            int number = readNumber();
            if (number == NONE) {
                return false;
            }
            switch (kind) {
                case LIMIT:
                    draft.limit = number;
                    return true;
                case NEAR:
                    draft.near = number;
                    return true;
                case STORM:
                    draft.storm = number;
                    return true;
                default:
                    draft.window = number;
                    return within(number, LEAST_WINDOW, GREATEST_WINDOW) || refuse(WRONG_NUMBER, numberPlace);
            }
        }

        private boolean readShare(Rule draft) {
            int share = readNumber();
            if (share == NONE) {
                return false;
            }
            skipBlanks();
            int from = place;
            skipLetters();
            if (!spells("of", from)) {
                return refuse(WRONG_PLACE, from);
            }
            int shareOf = readNumber();
            if (shareOf == NONE) {
                return false;
            }
            if (shareOf == 0 || shareOf < share) {
                return refuse(WRONG_NUMBER, numberPlace);
            }
            draft.share = share;
            draft.shareOf = shareOf;
            return true;
        }

        private boolean readSteps(Rule draft) {
            draft.clearSteps();
            int ahead = NONE;
            for (int i = 0; i <= MOST_STEPS; i++) {
                int number = readNumber();
                if (number == NONE) {
                    return false;
                }
                if (number <= ahead) {
                    return refuse(WRONG_NUMBER, numberPlace);
                }
                if (i == MOST_STEPS) {
                    return refuse(TOO_MANY, numberPlace);
                }
                draft.addStep(number);
                ahead = number;
                skipBlanks();
                if (!isDigit(look())) {
                    return true;
                }
            }
            return false;
        }

        /** The next N; NONE, with its FAULT told, if there is no good one. */
        private int readNumber() {
            skipBlanks();
            numberPlace = place;
            int number = 0;
            while (place < length && isDigit(look())) {
                // kept just above the greatest N, so that many digits can't overflow
                number = Math.min(number * 10 + look() - '0', GREATEST_NUMBER + 1);
                place++;
            }
            if (place == numberPlace) {
                refuse(WRONG_PLACE, place);
                return NONE;
            }
            if (number > GREATEST_NUMBER) {
                refuse(WRONG_NUMBER, numberPlace);
                return NONE;
            }
            return number;
        }

        private boolean refuse(int kind, int where) {
            faultKind = kind;
            faultPlace = where;
            return false;
        }

        private void skipBlanks() {
            while (place < length && look() == ' ') {
                place++;
            }
        }

        private void skipLetters() {
            while (place < length && within(look(), 'a', 'z')) {
                place++;
            }
        }

        private boolean spells(String word, int from) {
            if (place - from != word.length()) {
                return false;
            }
            for (int i = 0; i < word.length(); i++) {
                if (tape.byteAt(from + i) != word.charAt(i)) {
                    return false;
                }
            }
            return true;
        }

        /** The byte that comes next; NONE at the end. */
        private int look() {
            return place < length ? tape.byteAt(place) : NONE;
        }

        private static boolean isDigit(int sign) {
            return within(sign, '0', '9');
        }
    }

    /** The TRAINS, held as the TIMES at which one goes by. */
    private static final class Trains {
        private final boolean[] going;
        private int size;

        Trains() {
            going = new boolean[TIMES];
            size = 0;
        }

        int size() {
            return size;
        }

        int add(int from, int times) {
            if (size >= MOST_TRAINS) {
                return -1;
            }
            for (int time = Math.max(from, 0); time < going.length && time - from < times; time++) {
                going[time] = true;
            }
            size++;
            return size - 1;
        }

        boolean goBy(int time) {
            return time >= 0 && time < going.length && going[time];
        }
    }

    /** INDEX of all WINDOWS, and the STORMS and QUIET ones among them. */
    private static final class Windows {
        // the greatest RANGE of each WINDOW at first, its INDEX then
        private final int[] indices;
        private int size;

        Windows() {
            indices = new int[MOST_WINDOWS];
            size = 0;
        }

        void clear(int many) {
            size = Math.max(0, Math.min(many, MOST_WINDOWS));
            Arrays.fill(indices, NONE);
        }

        void takeRanges(Track track, Rule rule, Trains trains) {
            for (int window = 0; window < size; window++) {
                indices[window] = Math.max(indices[window], track.rangeIn(window, rule, trains));
            }
        }

        void turnRangesToIndices(Rule rule) {
            for (int window = 0; window < size; window++) {
                if (indices[window] != NONE) {
                    indices[window] = rule.stepsUpTo(indices[window]);
                }
            }
        }

        int indexOf(int window) {
            if (window < 0 || window >= size) {
                return NONE;
            }
            return indices[window];
        }

        /** How many WINDOWS from this one on have an INDEX of least or more. */
        int stormLength(int first, int least) {
            int many = 0;
            while (many < size && indexOf(first + many) >= least) {
                many++;
            }
            return many;
        }

        int stormStart(int k, int least) {
            int found = 0;
            int window = 0;
            while (window < size) {
                int many = stormLength(window, least);
                if (many >= 2) {
                    if (found == k) {
                        return window;
                    }
                    found++;
                }
                window += many + 1;
            }
            return NONE;
        }

        int quietWindow(int k) {
            int found = 0;
            for (int index = 0; index <= MOST_STEPS; index++) {
                for (int window = 0; window < size; window++) {
                    if (indices[window] == index) {
                        if (found == k) {
                            return window;
                        }
                        found++;
                    }
                }
            }
            return NONE;
        }
    }
}
