import java.math.BigInteger;
import java.util.ArrayList;
import java.util.Collections;
import java.util.List;
import java.util.TreeMap;
import java.util.regex.Matcher;
import java.util.regex.Pattern;

/**
 * A second telling of the document, slow and plain: everything is worked out anew at each call,
 * lines are found by trying every slope that can be the nearest to 0, with fractions of big numbers,
 * and a RULE is cut into words first and read then. It shares no code with the class.
 */
final class Model {
    private static final int NONE = -1;
    private static final int LOST = -2000000000;
    private static final List<String> KINDS = List.of("limit", "near", "share", "window", "storm", "index");
    private static final Pattern WORD = Pattern.compile(" *([a-z]+|[0-9]+|[^ ]|\\z)", Pattern.DOTALL);

    private record Fraction(BigInteger upper, BigInteger lower) implements Comparable<Fraction> {
        static Fraction of(long upper, long lower) {
            BigInteger u = BigInteger.valueOf(upper);
            BigInteger l = BigInteger.valueOf(lower);
            BigInteger common = u.gcd(l);
            return new Fraction(u.divide(common), l.divide(common));
        }

        Fraction plus(Fraction other) {
            return new Fraction(upper.multiply(other.lower).add(other.upper.multiply(lower)),
                    lower.multiply(other.lower));
        }

        Fraction times(long number) {
            return new Fraction(upper.multiply(BigInteger.valueOf(number)), lower);
        }

        Fraction size() {
            return new Fraction(upper.abs(), lower);
        }

        int roundedDown() {
            BigInteger[] parts = upper.divideAndRemainder(lower);
            return parts[0].intValueExact() - (parts[1].signum() < 0 ? 1 : 0);
        }

        @Override
        public int compareTo(Fraction other) {
            return upper.multiply(other.lower).compareTo(other.upper.multiply(lower));
        }
    }

    private record Measure(int time, int mean, int left, int end) {
    }

    private record Point(int time, int point, int end) {
    }

    private record Piece(int first, int points, Fraction slope, Fraction atZero) {
    }

    private record Train(int from, int times) {
    }

    private record Token(String text, int place) {
        boolean isNumber() {
            return !text.isEmpty() && Character.isDigit(text.charAt(0));
        }
    }

    /** A FAULT on its way out of the reading of a RULE. */
    private static final class Fault extends Exception {
        private static final long serialVersionUID = 1L;
        final int kind;
        final int place;

        Fault(int kind, Token token) {
            this.kind = kind;
            this.place = token.place();
        }
    }

    private final List<List<List<Integer>>> rows = new ArrayList<>();
    private final List<List<Measure>> measures = new ArrayList<>();
    private final List<Train> trains = new ArrayList<>();
    private final StringBuilder tape = new StringBuilder();
    private TreeMap<String, List<Integer>> rules = withoutRule();
    private int clauses = 0;
    private int faultPlace = NONE;
    private int end = 3;
    private int[][] published = null;
    private int timesPublished = 0;

    Model() {
        for (int set = 0; set < 2; set++) {
            rows.add(List.of(new ArrayList<>(), new ArrayList<>(), new ArrayList<>()));
        }
        for (int trace = 0; trace < 3; trace++) {
            measures.add(new ArrayList<>());
        }
    }

    private static TreeMap<String, List<Integer>> withoutRule() {
        TreeMap<String, List<Integer>> rules = new TreeMap<>();
        rules.put("limit", List.of(50));
        rules.put("near", List.of(5));
        rules.put("share", List.of(1, 2));
        rules.put("window", List.of(10));
        rules.put("storm", List.of(5));
        rules.put("index", List.of(5, 10, 20, 40, 70, 120, 200, 330, 500));
        return rules;
    }

    private static void index(boolean good) {
        if (!good) {
            throw new IndexOutOfBoundsException();
        }
    }

    private static void argument(boolean good) {
        if (!good) {
            throw new IllegalArgumentException();
        }
    }

    private List<Integer> row(int set, int trace) {
        index(set == 0 || set == 1);
        index(trace == 0 || trace == 1 || trace == 2);
        return rows.get(set).get(trace);
    }

    private int setting(String kind) {
        return rules.get(kind).get(0);
    }

    int read(int set, int trace, int value) {
        List<Integer> row = row(set, trace);
        argument(Math.abs((long) value) <= 30000);
        if (row.size() == 300) {
            return NONE;
        }
        row.add(value);
        return row.size();
    }

    int lost(int set, int trace, int many) {
        List<Integer> row = row(set, trace);
        argument(many >= 1 && many <= 300);
        if (row.size() + many > 300) {
            return NONE;
        }
        row.addAll(Collections.nCopies(many, LOST));
        return row.size();
    }

    int at(int set, int trace, int time) {
        List<Integer> row = row(set, trace);
        return time >= 0 && time < row.size() ? row.get(time) : LOST;
    }

    int shift(int set, int trace, int from, int by) {
        List<Integer> row = row(set, trace);
        argument(from >= 0 && Math.abs((long) by) <= 60000);
        List<Integer> shifted = new ArrayList<>();
        int many = 0;
        for (int time = 0; time < row.size(); time++) {
            boolean moves = time >= from && row.get(time) != LOST;
            int now = moves ? row.get(time) + by : row.get(time);
            if (moves && Math.abs(now) > 30000) {
                return NONE;
            }
            many += moves ? 1 : 0;
            shifted.add(now);
        }
        row.clear();
        row.addAll(shifted);
        return many;
    }

    int jump(int set, int trace, int k) {
        row(set, trace);
        List<Integer> jumps = new ArrayList<>();
        for (int time = 1; time < 300; time++) {
            long limit = setting("limit");
            long a = at(set, trace, time);
            long b = at(set, trace, time - 1);
            long c = at(1 - set, trace, time);
            long d = at(1 - set, trace, time - 1);
            boolean there = a != LOST && b != LOST && c != LOST && d != LOST;
            if (there && Math.abs(a - b) > limit && Math.abs(c - d) <= limit) {
                jumps.add(time);
            }
        }
        return pick(jumps, k);
    }

    private static int pick(List<Integer> list, int k) {
        return k >= 0 && k < list.size() ? list.get(k) : NONE;
    }

    int joined(int trace, int time) {
        index(trace >= 0 && trace < 3);
        return time < 0 || time > 299 ? LOST : allJoined(trace)[time];
    }

    private int[] allJoined(int trace) {
        int[] all = new int[300];
        for (int time = 0; time < 300; time++) {
            int a = at(0, trace, time);
            int b = at(1, trace, time);
            int ahead = time == 0 ? LOST : all[time - 1];
            if (a != LOST && b != LOST) {
                if (Math.abs(a - b) <= setting("near")) {
                    all[time] = (int) Math.floor((a + b) / 2.0);
                } else if (ahead == LOST) {
                    all[time] = a;
                } else {
                    all[time] = Math.abs(a - ahead) <= Math.abs(b - ahead) ? a : b;
                }
            } else {
                all[time] = a != LOST ? a : b;
            }
        }
        return all;
    }

    int end(int now) {
        argument(now >= 0 && now <= 1000);
        int was = end;
        end = now;
        return was;
    }

    int measure(int trace, int time, int a, int b, int c, int d) {
        index(trace >= 0 && trace < 3);
        argument(time >= 0 && time < 300);
        for (int position : new int[] {a, b, c, d}) {
            argument(position >= -100000 && position <= 100000);
        }
        List<Measure> of = measures.get(trace);
        if (of.size() == 20) {
            return -1;
        }
        for (Measure other : of) {
            if (other.time() >= time) {
                return -2;
            }
        }
        of.add(new Measure(time, (int) Math.floor((a + b + c + d) / 4.0), Math.abs((a + b) - (c + d)), end));
        return of.size() - 1;
    }

    int told(int trace, int measure, int what) {
        index(trace >= 0 && trace < 3);
        argument(what >= 0 && what <= 4);
        List<Measure> of = measures.get(trace);
        if (measure < 0 || measure >= of.size()) {
            return LOST;
        }
        Measure m = of.get(measure);
        int joined = joined(trace, m.time());
        int[] all = {m.time(), m.mean(), m.left(), m.end(), joined == LOST ? LOST : m.mean() - joined};
        return all[what];
    }

    private List<Piece> allPieces(int trace, int[] joined) {
        List<Point> points = new ArrayList<>();
        for (Measure m : measures.get(trace)) {
            if (joined[m.time()] != LOST) {
                points.add(new Point(m.time(), m.mean() - joined[m.time()], m.end()));
            }
        }
        List<Piece> pieces = new ArrayList<>();
        int first = 0;
        while (first < points.size()) {
            Piece best = null;
            for (int after = points.size(); best == null; after--) {
                best = line(points.subList(first, after));
            }
            pieces.add(best);
            first += best.points();
        }
        return pieces;
    }

    /** The LINE through all these POINTS; null, if there is none. */
    private static Piece line(List<Point> points) {
        List<Fraction> slopes = new ArrayList<>();
        slopes.add(Fraction.of(0, 1));
        for (Point a : points) {
            for (Point b : points) {
                if (a.time() < b.time()) {
                    int run = b.time() - a.time();
                    slopes.add(Fraction.of(b.point() + b.end() - (a.point() - a.end()), run));
                    slopes.add(Fraction.of(b.point() - b.end() - (a.point() + a.end()), run));
                }
            }
        }
        Piece best = null;
        for (Fraction slope : slopes) {
            if (best != null && slope.size().compareTo(best.slope().size()) >= 0) {
                continue;
            }
            Fraction low = null;
            Fraction high = null;
            for (Point p : points) {
                Fraction fall = slope.times(-p.time());
                Fraction lowHere = Fraction.of(p.point() - p.end(), 1).plus(fall);
                Fraction highHere = Fraction.of(p.point() + p.end(), 1).plus(fall);
                low = low == null || lowHere.compareTo(low) > 0 ? lowHere : low;
                high = high == null || highHere.compareTo(high) < 0 ? highHere : high;
                if (low.compareTo(high) > 0) {
                    break;
                }
            }
            if (low.compareTo(high) <= 0) {
                Fraction sum = low.plus(high);
                Fraction middle = new Fraction(sum.upper(), sum.lower().shiftLeft(1));
                best = new Piece(points.get(0).time(), points.size(), slope, middle);
            }
        }
        return best;
    }

    int pieces(int trace) {
        index(trace >= 0 && trace < 3);
        return allPieces(trace, allJoined(trace)).size();
    }

    int piece(int trace, int k, int what) {
        index(trace >= 0 && trace < 3);
        argument(what >= 0 && what <= 3);
        List<Piece> all = allPieces(trace, allJoined(trace));
        if (k < 0 || k >= all.size()) {
            return LOST;
        }
        Piece p = all.get(k);
        int[] tells = {p.first(), p.points(), p.slope().upper().intValueExact(), p.slope().lower().intValueExact()};
        return tells[what];
    }

    int baseline(int trace, int time) {
        index(trace >= 0 && trace < 3);
        return baseline(allPieces(trace, allJoined(trace)), time);
    }

    private static int baseline(List<Piece> all, int time) {
        if (all.isEmpty() || time < 0 || time > 299) {
            return LOST;
        }
        Piece of = all.get(0);
        for (Piece p : all) {
            of = p.first() <= time ? p : of;
        }
        return of.slope().times(time).plus(of.atZero()).roundedDown();
    }

    private int[] allFinals(int trace) {
        int[] all = allJoined(trace);
        List<Piece> pieces = allPieces(trace, all.clone());
        for (int time = 0; time < 300; time++) {
            if (all[time] != LOST) {
                int base = baseline(pieces, time);
                all[time] = base == LOST ? LOST : all[time] + base;
            }
        }
        return all;
    }

    int value(int trace, int time) {
        index(trace >= 0 && trace < 3);
        return time < 0 || time > 299 ? LOST : allFinals(trace)[time];
    }

    int feed(int a, int b, int c, int d, int e) {
        if (tape.length() + 20 > 300) {
            return NONE;
        }
        for (int word : new int[] {a, b, c, d, e}) {
            tape.append((char) (word >>> 24)).append((char) (word >>> 16 & 0xff));
            tape.append((char) (word >>> 8 & 0xff)).append((char) (word & 0xff));
        }
        return tape.length();
    }

    int rule(int n) {
        argument(n >= 0 && n <= tape.length());
        String text = tape.substring(0, n);
        tape.setLength(0);
        try {
            TreeMap<String, List<Integer>> now = withoutRule();
            clauses = readClauses(tokens(text), now);
            rules = now;
            faultPlace = NONE;
            return clauses;
        } catch (Fault fault) {
            faultPlace = fault.place;
            return fault.kind - 10;
        }
    }

    private static List<Token> tokens(String text) {
        List<Token> tokens = new ArrayList<>();
        Matcher matcher = WORD.matcher(text);
        int from = 0;
        while (from < text.length() && matcher.find(from)) {
            tokens.add(new Token(matcher.group(1), matcher.start(1)));
            from = matcher.end();
        }
        tokens.add(new Token("", text.length()));
        return tokens;
    }

    private static int readClauses(List<Token> tokens, TreeMap<String, List<Integer>> now) throws Fault {
        int at = 0;
        int clauses = 0;
        while (!tokens.get(at).text().isEmpty()) {
            Token word = tokens.get(at);
            if (!KINDS.contains(word.text())) {
                throw new Fault(1, word);
            }
            if (clauses == 12) {
                throw new Fault(3, word);
            }
            List<Integer> numbers = new ArrayList<>();
            at++;
            boolean more = true;
            while (more) {
                Token token = tokens.get(at);
                numbers.add(number(token, word.text(), numbers));
                at++;
                more = word.text().equals("index") && tokens.get(at).isNumber();
                if (word.text().equals("share") && numbers.size() == 1) {
                    if (!tokens.get(at).text().equals("of")) {
                        throw new Fault(1, tokens.get(at));
                    }
                    at++;
                    more = true;
                }
            }
            if (!tokens.get(at).text().equals(";")) {
                throw new Fault(1, tokens.get(at));
            }
            at++;
            clauses++;
            now.put(word.text(), numbers);
        }
        return clauses;
    }

    private static int number(Token token, String kind, List<Integer> ahead) throws Fault {
        if (!token.isNumber()) {
            throw new Fault(1, token);
        }
        BigInteger big = new BigInteger(token.text());
        if (big.compareTo(BigInteger.valueOf(10000)) > 0) {
            throw new Fault(2, token);
        }
        int number = big.intValue();
        boolean bad = kind.equals("window") && (number < 2 || number > 60);
        bad |= kind.equals("share") && ahead.size() == 1 && (number == 0 || number < ahead.get(0));
        bad |= kind.equals("index") && !ahead.isEmpty() && number <= ahead.get(ahead.size() - 1);
        if (bad) {
            throw new Fault(2, token);
        }
        if (ahead.size() == 9) {
            throw new Fault(3, token);
        }
        return number;
    }

    int fault() {
        return faultPlace;
    }

    int train(int from, int times) {
        argument(from >= 0 && from < 300 && times >= 1 && times <= 300);
        if (trains.size() == 10) {
            return -1;
        }
        trains.add(new Train(from, times));
        return trains.size() - 1;
    }

    int range(int trace, int window) {
        index(trace >= 0 && trace < 3);
        return window < 0 || window >= count(1) ? NONE : range(allFinals(trace), window);
    }

    private int range(int[] finals, int window) {
        int length = setting("window");
        List<Integer> asked = new ArrayList<>();
        for (int time = window * length; time < (window + 1) * length; time++) {
            boolean train = false;
            for (Train t : trains) {
                train |= time >= t.from() && time < t.from() + t.times();
            }
            if (finals[time] != LOST && !train) {
                asked.add(finals[time]);
            }
        }
        List<Integer> share = rules.get("share");
        if (asked.isEmpty() || asked.size() * share.get(1) < length * share.get(0)) {
            return NONE;
        }
        return Collections.max(asked) - Collections.min(asked);
    }

    private List<Integer> allIndices() {
        List<int[]> finals = List.of(allFinals(0), allFinals(1), allFinals(2));
        List<Integer> all = new ArrayList<>();
        for (int window = 0; window < count(1); window++) {
            int greatest = NONE;
            for (int[] of : finals) {
                greatest = Math.max(greatest, range(of, window));
            }
            int limit = greatest;
            all.add(greatest == NONE ? NONE : (int) rules.get("index").stream().filter(n -> n <= limit).count());
        }
        return all;
    }

    int index(int window) {
        return pick(allIndices(), window);
    }

    int storm(int k, int what) {
        argument(what == 0 || what == 1);
        List<int[]> storms = new ArrayList<>();
        int[] open = {0, 0};
        int window = 0;
        for (int index : allIndices()) {
            if (index != NONE && index >= setting("storm")) {
                open = open[1] == 0 ? new int[] {window, 1} : new int[] {open[0], open[1] + 1};
            } else {
                storms.add(open);
                open = new int[] {0, 0};
            }
            window++;
        }
        storms.add(open);
        storms.removeIf(storm -> storm[1] < 2);
        return k >= 0 && k < storms.size() ? storms.get(k)[what] : NONE;
    }

    int quiet(int k) {
        List<Integer> all = allIndices();
        List<Integer> quiet = new ArrayList<>();
        for (int window = 0; window < all.size(); window++) {
            if (all.get(window) != NONE) {
                quiet.add(window);
            }
        }
        quiet.sort((a, b) -> all.get(a).equals(all.get(b)) ? a - b : all.get(a) - all.get(b));
        return pick(quiet, k);
    }

    int publish() {
        published = new int[][] {allFinals(0), allFinals(1), allFinals(2)};
        timesPublished++;
        int there = 0;
        for (int[] of : published) {
            for (int value : of) {
                there += value == LOST ? 0 : 1;
            }
        }
        return there;
    }

    int changed(int trace, int k) {
        index(trace >= 0 && trace < 3);
        List<Integer> changed = new ArrayList<>();
        int[] now = allFinals(trace);
        for (int time = 0; time < 300 && published != null; time++) {
            if (now[time] != published[trace][time]) {
                changed.add(time);
            }
        }
        return pick(changed, k);
    }

    int published(int trace, int time) {
        index(trace >= 0 && trace < 3);
        return published == null || time < 0 || time > 299 ? LOST : published[trace][time];
    }

    int count(int what) {
        int times = 0;
        for (List<List<Integer>> set : rows) {
            for (List<Integer> row : set) {
                times = Math.max(times, row.size());
            }
        }
        int[] all = {times, times / setting("window"), trains.size(), clauses, tape.length(), timesPublished};
        return what >= 0 && what < all.length ? all[what] : NONE;
    }
}
