import java.util.ArrayList;
import java.util.List;

/**
 * Two houses with the same past, one of which has had a call more that is refused (or only asks).
 * It must have left no trace: whatever is asked then, and whatever is done then, both answer alike.
 * Each chapter of questions begins with new houses, so that none comes near its 512th call.
 */
final class Twins {
    interface Past {
        void live(NeedleHouse house);
    }

    interface Ask {
        int of(NeedleHouse house);
    }

    private static final int[] TIMES = {-1, 0, 1, 2, 3, 4, 5, 6, 7, 8, 9, 10, 11, 12, 150, 279, 280, 281, 298, 299, 300};
    private static final int[] MEASURES = {-1, 0, 1, 2, 3, 18, 19, 20};
    private static final int[] WINDOWS = {-1, 0, 1, 2, 3, 4, 5, 6, 74, 149, 150};
    private static final List<List<Ask>> CHAPTERS = chapters();

    private Twins() {
    }

    /** The call answers this, and has changed nothing. */
    static void refused(String what, int want, Past past, Ask call) {
        refusedWith(what, "" + want, past, call);
    }

    static void refusedIndex(String what, Past past, Ask call) {
        refusedWith(what, "IndexOutOfBoundsException", past, call);
    }

    static void refusedArgument(String what, Past past, Ask call) {
        refusedWith(what, "IllegalArgumentException", past, call);
    }

    /** A call that only asks, whatever it answers. */
    static void asked(String what, Past past, Ask call) {
        NeedleHouse house = new NeedleHouse();
        past.live(house);
        refusedWith(what, answer(house, call), past, call);
    }

    private static void refusedWith(String what, String want, Past past, Ask call) {
        for (int chapter = 0; chapter < CHAPTERS.size(); chapter++) {
            NeedleHouse plain = new NeedleHouse();
            NeedleHouse other = new NeedleHouse();
            past.live(plain);
            past.live(other);
            Check.alike(what, want, answer(other, call));
            List<Ask> asks = CHAPTERS.get(chapter);
            for (int i = 0; i < asks.size(); i++) {
                Check.alike(what + " left a trace, seen by question " + chapter + "." + i,
                        answer(plain, asks.get(i)), answer(other, asks.get(i)));
            }
        }
    }

    private static String answer(NeedleHouse house, Ask ask) {
        try {
            return "" + ask.of(house);
        } catch (RuntimeException e) {
            return e.getClass().getSimpleName();
        }
    }

    private static List<List<Ask>> chapters() {
        return List.of(rows(), values(), measures(), windows(), moreReadings(), moreMeasures(), otherEnd(),
                moreTrains(), moreTape(), takenTape(), publishedAnew());
    }

    private static List<Ask> rows() {
        List<Ask> asks = new ArrayList<>();
        for (int set = 0; set < 2; set++) {
            for (int trace = 0; trace < 3; trace++) {
                int s = set;
                int t = trace;
                for (int time : TIMES) {
                    asks.add(house -> house.at(s, t, time));
                }
                for (int k = -1; k < 4; k++) {
                    int n = k;
                    asks.add(house -> house.jump(s, t, n));
                }
            }
        }
        return asks;
    }

    private static List<Ask> values() {
        List<Ask> asks = new ArrayList<>();
        for (int trace = 0; trace < 3; trace++) {
            int t = trace;
            for (int time : TIMES) {
                asks.add(house -> house.joined(t, time));
                asks.add(house -> house.baseline(t, time));
                asks.add(house -> house.value(t, time));
                asks.add(house -> house.published(t, time));
            }
            for (int k = -1; k < 5; k++) {
                int n = k;
                asks.add(house -> house.changed(t, n));
            }
        }
        return asks;
    }

    private static List<Ask> measures() {
        List<Ask> asks = new ArrayList<>();
        for (int trace = 0; trace < 3; trace++) {
            int t = trace;
            asks.add(house -> house.pieces(t));
            for (int measure : MEASURES) {
                for (int what = 0; what <= 4; what++) {
                    int w = what;
                    asks.add(house -> house.told(t, measure, w));
                }
            }
            for (int k = -1; k < 5; k++) {
                for (int what = 0; what <= 3; what++) {
                    int n = k;
                    int w = what;
                    asks.add(house -> house.piece(t, n, w));
                }
            }
        }
        return asks;
    }

    private static List<Ask> windows() {
        List<Ask> asks = new ArrayList<>();
        for (int window : WINDOWS) {
            for (int trace = 0; trace < 3; trace++) {
                int t = trace;
                asks.add(house -> house.range(t, window));
            }
            asks.add(house -> house.index(window));
            asks.add(house -> house.quiet(window));
            asks.add(house -> house.storm(window, 0));
            asks.add(house -> house.storm(window, 1));
        }
        for (int what = -1; what <= 6; what++) {
            int w = what;
            asks.add(house -> house.count(w));
        }
        asks.add(house -> house.fault());
        return asks;
    }

    private static List<Ask> moreReadings() {
        List<Ask> asks = new ArrayList<>();
        for (int set = 0; set < 2; set++) {
            for (int trace = 0; trace < 3; trace++) {
                int s = set;
                int t = trace;
                asks.add(house -> house.read(s, t, 77));
                asks.add(house -> house.lost(s, t, 2));
                asks.add(house -> house.read(s, t, 99));
                asks.add(house -> house.shift(s, t, 0, 1));
            }
        }
        asks.add(house -> house.count(0));
        asks.addAll(rows());
        return asks;
    }

    private static List<Ask> moreMeasures() {
        List<Ask> asks = new ArrayList<>();
        for (int trace = 0; trace < 3; trace++) {
            int t = trace;
            for (int time : new int[] {0, 11, 150, 299}) {
                asks.add(house -> house.measure(t, time, 900, 901, 902, 904));
            }
        }
        asks.addAll(measures());
        return asks;
    }

    private static List<Ask> otherEnd() {
        return List.of(house -> house.end(4), house -> house.end(5));
    }

    private static List<Ask> moreTrains() {
        List<Ask> asks = new ArrayList<>();
        asks.add(house -> house.train(5, 2));
        asks.add(house -> house.train(280, 300));
        asks.addAll(windows());
        return asks;
    }

    private static List<Ask> moreTape() {
        int blanks = 0x20202020;
        List<Ask> asks = new ArrayList<>();
        asks.add(house -> house.feed(blanks, blanks, blanks, blanks, 0x20202041));
        asks.add(house -> house.count(4));
        asks.addAll(takenTape());
        return asks;
    }

    private static List<Ask> takenTape() {
        List<Ask> asks = new ArrayList<>();
        asks.add(house -> house.rule(house.count(4)));
        asks.add(house -> house.fault());
        asks.add(house -> house.count(3));
        asks.add(house -> house.count(4));
        asks.addAll(windows());
        return asks;
    }

    private static List<Ask> publishedAnew() {
        List<Ask> asks = new ArrayList<>();
        asks.add(house -> house.publish());
        asks.add(house -> house.count(5));
        asks.addAll(values());
        return asks;
    }
}
