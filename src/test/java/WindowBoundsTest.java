/** The boundary cases of TRAINS, WINDOWS, STORMS and QUIET and of promises 18 to 22, a sentence a test. */
public final class WindowBoundsTest {
    private static final int NONE = Check.NONE;
    private static final int LOST = Check.LOST;
    private static final int LEAST = Integer.MIN_VALUE;
    private static final int GREATEST = Integer.MAX_VALUE;

    public static void main(String[] args) {
        tenTrainsAtMost();
        trainFromATimeOn();
        trainBeyondTheEnd();
        windowsFromTheirTimesOn();
        windowsThatLieWhole();
        windowsOfAnyRow();
        askedAreFinalsThatAreThere();
        askedAtNoTrainsTime();
        rangeOfGreatestAndLeast();
        rangeByShare();
        rangeByTheLeastAndGreatestShare();
        rangeIfNoneIsAsked();
        indexOfNotAbove();
        indexOfTheGreatestRange();
        indexIfNoneHasOne();
        stormOfTwoWindowsOrMore();
        stormOfIndexOrMore();
        stormAsManyAsThereAre();
        stormWithoutIndex();
        quietByIndexThenByNumber();
        quietWindowsHaveAnIndex();
        trainTellsItsNumber();
        trainWhenThereAre10();
        trainFromAWrongTime();
        trainOfWrongTimes();
        rangeWithoutThatWindow();
        rangeOfNoSuchTrace();
        indexWithoutThatWindow();
        stormOfEachK();
        stormAnotherWhat();
        quietOfEachK();
        Check.finish();
    }

    private static NeedleHouse house(String rule, int... readings) {
        NeedleHouse house = new NeedleHouse();
        Check.row(house, 0, 0, readings);
        Check.mean(house, 0, 0, 1000);
        Check.rule(house, rule);
        return house;
    }

    /** WINDOWS of two TIMES each, with these RANGES in TRACE 0; LOST for one that has none. */
    private static NeedleHouse ranges(String rule, int... ranges) {
        NeedleHouse house = new NeedleHouse();
        Check.mean(house, 0, 0, 0);
        for (int range : ranges) {
            Check.row(house, 0, 0, range == LOST ? LOST : 0, range);
        }
        Check.rule(house, "window 2;" + rule);
        return house;
    }

    private static void tenTrainsAtMost() {
        Check.sentence("TRAINS, 10 at most");
        NeedleHouse house = house("window 11;share 0 of 1;", 0, 0, 0, 0, 0, 0, 0, 0, 0, 7, 90);
        for (int i = 0; i < 9; i++) {
            house.train(i, 1);
        }
        Check.due("nine: two are ASKED", 83, house.range(0, 0));
        house.train(9, 1);
        Check.due("ten: one is ASKED", 0, house.range(0, 0));
        Check.due("an 11th is none", -1, house.train(10, 1));
        Check.due("one is ASKED still", 0, house.range(0, 0));
        Check.due("TRAINS", 10, house.count(2));
    }

    private static void trainFromATimeOn() {
        Check.sentence("TRAINS .. go by from a TIME on, so many TIMES");
        int[] steps = {0, 1, 3, 7, 15, 31};
        int[][] wants = {{0, 1, 30}, {0, 2, 28}, {1, 1, 31}, {5, 1, 15}, {4, 2, 7}, {4, 300, 7}, {1, 5, 0}, {1, 4, 31},
            {0, 5, 0}, {0, 6, NONE}, {0, 300, NONE}};
        for (int[] want : wants) {
            NeedleHouse house = house("window 6;share 0 of 1;", steps);
            house.train(want[0], want[1]);
            Check.due("from " + want[0] + ", " + want[1], want[2], house.range(0, 0));
        }
        NeedleHouse both = house("window 6;share 0 of 1;", steps);
        both.train(0, 2);
        both.train(1, 2);
        Check.due("two TRAINS at one TIME", 24, both.range(0, 0));
        NeedleHouse early = new NeedleHouse();
        early.train(1, 1);
        Check.row(early, 0, 0, 0, 90, 4);
        Check.mean(early, 0, 0, 0);
        Check.rule(early, "window 3;");
        Check.due("a TRAIN ahead of all readings", 4, early.range(0, 0));
    }

    private static void trainBeyondTheEnd() {
        Check.sentence("TRAINS .. so many TIMES (beyond the last one)");
        NeedleHouse house = new NeedleHouse();
        house.lost(0, 0, 297);
        Check.row(house, 0, 0, 5, 6, 9);
        Check.mean(house, 0, 299, 0);
        Check.rule(house, "window 60;share 0 of 1;");
        Check.due("no TRAIN", 4, house.range(0, 4));
        house.train(299, 300);
        Check.due("the last TIME left out", 1, house.range(0, 4));
        house.train(298, 2);
        Check.due("the last two left out", 0, house.range(0, 4));
    }

    private static void windowsFromTheirTimesOn() {
        Check.sentence("WINDOW k has the TIMES from k times window on, as many as window tells");
        NeedleHouse house = house("window 3;", 0, 0, 1, 10, 20, 40, 100, 100, 101);
        Check.due("TIMES 0 to 2", 1, house.range(0, 0));
        Check.due("TIMES 3 to 5", 30, house.range(0, 1));
        Check.due("TIMES 6 to 8", 1, house.range(0, 2));
        Check.rule(house, "window 2;");
        int[] twos = {0, 9, 20, 0, NONE};
        for (int window = 0; window < twos.length; window++) {
            Check.due("WINDOW " + window + " of 2", twos[window], house.range(0, window));
        }
        house.lost(0, 0, 289);
        Check.row(house, 0, 0, 5, 9);
        Check.due("the last of 150", 4, house.range(0, 149));
        Check.rule(house, "window 60;share 0 of 1;");
        Check.due("the first of 60", 101, house.range(0, 0));
        Check.due("the last of 60", 4, house.range(0, 4));
    }

    private static void windowsThatLieWhole() {
        Check.sentence("there are as many as lie whole below the TIMES that any row has");
        int[][] wants = {{2, 1, 0}, {2, 2, 1}, {2, 3, 1}, {2, 4, 2}, {2, 299, 149}, {2, 300, 150}, {60, 59, 0},
            {60, 60, 1}, {60, 119, 1}, {60, 120, 2}, {60, 299, 4}, {60, 300, 5}, {59, 300, 5}, {7, 300, 42}};
        for (int[] want : wants) {
            NeedleHouse house = new NeedleHouse();
            Check.rule(house, "window " + want[0] + ";share 0 of 1;");
            Check.due("no TIMES", 0, house.count(1));
            if (want[1] > 1) {
                house.lost(0, 0, want[1] - 1);
            }
            house.read(0, 0, 5);
            Check.mean(house, 0, want[1] - 1, 5);
            Check.due(want[1] + " TIMES, window " + want[0], want[2], house.count(1));
            boolean whole = want[1] % want[0] == 0;
            Check.due("the last TIME's WINDOW", whole ? 0 : NONE, house.range(0, (want[1] - 1) / want[0]));
            Check.due("no WINDOW behind", NONE, house.range(0, want[2]));
            Check.due("no INDEX behind", NONE, house.index(want[2]));
            Check.due("no INDEX behind", NONE, house.index(want[2] + 1));
            Check.due("QUIET ones", whole ? want[2] - 1 : NONE, house.quiet(0));
            Check.due("QUIET ones", NONE, house.quiet(1));
        }
        NeedleHouse part = house("window 3;storm 0;", 0, 0, 0, 0, 0);
        Check.due("a part of a WINDOW has no INDEX", NONE, part.index(1));
        Check.due("a part of a WINDOW is not QUIET", NONE, part.quiet(1));
        Check.due("a part of a WINDOW is in no STORM", NONE, part.storm(0, 0));
        part.read(0, 0, 0);
        Check.due("it is whole now", 0, part.index(1));
        Check.due("it is whole now", 1, part.quiet(1));
        Check.due("it is whole now", 2, part.storm(0, 1));
        NeedleHouse short10 = house("storm 0;", 0, 0, 0, 0, 0, 0, 0, 0, 0);
        Check.due("9 of 10", NONE, short10.index(0));
        Check.due("9 of 10", NONE, short10.quiet(0));
    }

    private static void windowsOfAnyRow() {
        Check.sentence("the TIMES that any row has");
        for (int set = 0; set < 2; set++) {
            for (int trace = 0; trace < 3; trace++) {
                NeedleHouse house = house("window 2;", 0, 3, 0);
                Check.due("one WINDOW", 1, house.count(1));
                house.lost(set, trace, 4);
                Check.due("TIMES of LOST readings count", set + trace == 0 ? 3 : 2, house.count(1));
                Check.due("a WINDOW with one reading of two", 0, house.range(0, 1));
            }
        }
    }

    private static void askedAreFinalsThatAreThere() {
        Check.sentence("ASKED are FINAL values in it that are not LOST");
        NeedleHouse house = house("window 4;share 1 of 4;", 5, LOST, 9, LOST, LOST, LOST, 7, LOST);
        Check.due("two of them", 4, house.range(0, 0));
        Check.due("one of them", 0, house.range(0, 1));
        NeedleHouse flat = new NeedleHouse();
        Check.row(flat, 0, 0, 3, 9);
        Check.rule(flat, "window 2;");
        Check.due("no BASELINE: none", NONE, flat.range(0, 0));
        flat.end(0);
        Check.mean(flat, 0, 0, 10);
        Check.mean(flat, 0, 1, 11);
        Check.due("FINAL, not JOINED", 1, flat.range(0, 0));
    }

    private static void askedAtNoTrainsTime() {
        Check.sentence("ASKED .. at no TRAIN's TIME");
        NeedleHouse house = house("window 4;share 1 of 2;", 0, 10, 20, 40);
        house.train(3, 1);
        Check.due("three are ASKED", 20, house.range(0, 0));
        house.train(0, 1);
        Check.due("two are ASKED", 10, house.range(0, 0));
        house.train(1, 1);
        Check.due("one is ASKED: too few", NONE, house.range(0, 0));
        Check.due("FINAL is there still", 1000, house.value(0, 0));
        house.publish();
        Check.due("PUBLISHED too", 1000, house.published(0, 0));
    }

    private static void rangeOfGreatestAndLeast() {
        Check.sentence("RANGE of a TRACE in a WINDOW: the greatest one ASKED less the least");
        NeedleHouse house = house("window 3;", -5, 0, 5, 5, 0, -5, 0, 0, 0, -9, -9, -4, 30000, -30000, 0);
        int[] want = {10, 10, 0, 5, 60000};
        for (int window = 0; window < want.length; window++) {
            Check.due("WINDOW " + window, want[window], house.range(0, window));
        }
        NeedleHouse steep = new NeedleHouse();
        steep.read(0, 0, 30000);
        steep.read(0, 0, -30000);
        steep.lost(0, 0, 239);
        for (int i = 0; i < 59; i++) {
            steep.read(0, 0, 0);
        }
        steep.end(0);
        steep.measure(0, 0, -100000, -100000, -100000, -100000);
        steep.measure(0, 1, 100000, 100000, 100000, 100000);
        Check.rule(steep, "window 60;share 1 of 2;");
        Check.due("as steep as can be", 58 * 260000, steep.range(0, 4));
        Check.due("its INDEX", 9, steep.index(4));
    }

    private static void rangeByShare() {
        Check.sentence("none, if how many are ASKED, times the second N of share, is less than window times the first");
        for (int asked = 1; asked <= 10; asked++) {
            int[] readings = new int[10];
            for (int i = 0; i < 10; i++) {
                readings[i] = i < asked ? i : LOST;
            }
            NeedleHouse house = house("", readings);
            Check.due("share 1 of 2, " + asked + " of 10", asked >= 5 ? asked - 1 : NONE, house.range(0, 0));
            Check.rule(house, "share 3 of 10;");
            Check.due("share 3 of 10, " + asked + " of 10", asked >= 3 ? asked - 1 : NONE, house.range(0, 0));
            Check.rule(house, "share 31 of 100;");
            Check.due("share 31 of 100, " + asked + " of 10", asked >= 4 ? asked - 1 : NONE, house.range(0, 0));
            Check.rule(house, "share 1 of 3;");
            Check.due("share 1 of 3, " + asked + " of 10", asked >= 4 ? asked - 1 : NONE, house.range(0, 0));
        }
    }

    private static void rangeByTheLeastAndGreatestShare() {
        Check.sentence("share (0 of 1, 1 of 1, 10,000 of 10,000)");
        int[] readings = {0, 4, LOST, LOST, 1, 2, 4, 8, 1, 2, 4, LOST};
        int[][] wants = {{0, 1, 4, 7, 3}, {0, 10000, 4, 7, 3}, {1, 1, NONE, 7, NONE}, {10000, 10000, NONE, 7, NONE},
            {9999, 10000, NONE, 7, NONE}, {7500, 10000, NONE, 7, 3}, {7501, 10000, NONE, 7, NONE},
            {5000, 10000, 4, 7, 3}, {5001, 10000, NONE, 7, 3}};
        for (int[] want : wants) {
            NeedleHouse house = house("window 4;share " + want[0] + " of " + want[1] + ";", readings);
            for (int window = 0; window < 3; window++) {
                Check.due("share " + want[0] + " of " + want[1], want[2 + window], house.range(0, window));
            }
        }
        int[] sixty = new int[60];
        sixty[59] = 8;
        Check.due("all of 60", 8, house("window 60;share 10000 of 10000;", sixty).range(0, 0));
        sixty[0] = LOST;
        NeedleHouse less = house("window 60;share 10000 of 10000;", sixty);
        Check.mean(less, 0, 1, 0);
        Check.due("all but one of 60", NONE, less.range(0, 0));
        Check.rule(less, "window 60;share 59 of 60;");
        Check.due("59 of 60", 8, less.range(0, 0));
    }

    private static void rangeIfNoneIsAsked() {
        Check.sentence("or none is ASKED");
        NeedleHouse house = house("window 2;share 0 of 1;", 3, LOST, LOST, LOST, 5, 6);
        Check.due("one is", 0, house.range(0, 0));
        Check.due("none is", NONE, house.range(0, 1));
        Check.due("two are", 1, house.range(0, 2));
        house.train(4, 2);
        Check.due("none but at a TRAIN's TIME", NONE, house.range(0, 2));
        Check.due("no readings of that TRACE", NONE, house.range(1, 0));
    }

    private static void indexOfNotAbove() {
        Check.sentence("INDEX of a WINDOW: how many N of index are not above the greatest RANGE of its TRACES");
        NeedleHouse house = ranges("index 3 7 20;", 0, 2, 3, 4, 6, 7, 8, 19, 20, 21, 30000);
        int[] want = {0, 0, 1, 1, 1, 2, 2, 2, 3, 3, 3};
        for (int window = 0; window < want.length; window++) {
            Check.due("INDEX of " + window, want[window], house.index(window));
        }
        Check.due("an N of 0", 1, ranges("index 0;", 0).index(0));
        Check.due("nine N", 9, ranges("index 0 1 2 3 4 5 6 7 8;", 8).index(0));
    }

    private static void indexOfTheGreatestRange() {
        Check.sentence("INDEX .. the greatest RANGE of its TRACES");
        for (int greatest = 0; greatest < 3; greatest++) {
            NeedleHouse house = new NeedleHouse();
            for (int trace = 0; trace < 3; trace++) {
                Check.row(house, 0, trace, 0, trace == greatest ? 9 : 2);
                Check.mean(house, trace, 0, 0);
            }
            Check.rule(house, "window 2;index 1 3 9 10;");
            Check.due("of TRACE " + greatest, 3, house.index(0));
        }
    }

    private static void indexIfNoneHasOne() {
        Check.sentence("INDEX .. none, if none has one");
        for (int only = 0; only < 3; only++) {
            NeedleHouse house = new NeedleHouse();
            for (int trace = 0; trace < 3; trace++) {
                Check.row(house, 1, trace, 0, 0, LOST, LOST);
            }
            Check.rule(house, "window 2;");
            Check.due("none has BASELINE", NONE, house.index(0));
            Check.mean(house, only, 0, 0);
            Check.due("one has RANGE 0", 0, house.index(0));
            Check.due("none has one", NONE, house.index(1));
            house.train(0, 2);
            Check.due("a TRAIN goes by", NONE, house.index(0));
        }
    }

    private static void stormOfTwoWindowsOrMore() {
        Check.sentence("STORMS: two WINDOWS or more, one behind another");
        String rule = "index 1;storm 1;";
        Check.due("one WINDOW", NONE, ranges(rule, 1).storm(0, 0));
        Check.due("one WINDOW in the middle", NONE, ranges(rule, 0, 1, 0).storm(0, 0));
        Check.due("two, but not one behind another", NONE, ranges(rule, 1, 0, 1).storm(0, 0));
        Check.due("two", 0, ranges(rule, 1, 1).storm(0, 0));
        Check.due("two", 2, ranges(rule, 1, 1).storm(0, 1));
        Check.due("two at the end", 1, ranges(rule, 0, 1, 1).storm(0, 0));
        Check.due("three", 3, ranges(rule, 0, 1, 1, 1, 0).storm(0, 1));
        Check.due("no WINDOW", NONE, ranges(rule).storm(0, 0));
    }

    private static void stormOfIndexOrMore() {
        Check.sentence("STORMS .. whose INDEX is storm or more");
        String nine = "index 1 2 3 4 5 6 7 8 9;";
        for (int storm = 1; storm <= 9; storm++) {
            NeedleHouse house = ranges(nine + "storm " + storm + ";", storm - 1, storm, storm, storm - 1, 9, storm);
            Check.due("just storm " + storm, 1, house.storm(0, 0));
            Check.due("just storm " + storm, 2, house.storm(0, 1));
            Check.due("storm or more " + storm, 4, house.storm(1, 0));
        }
        Check.due("storm 10: no INDEX is so great", NONE, ranges(nine + "storm 10;", 9, 9, 9).storm(0, 0));
        Check.due("storm 10000", NONE, ranges(nine + "storm 10000;", 30000, 30000).storm(0, 0));
        Check.due("storm 0: each INDEX", 3, ranges(nine + "storm 0;", 0, 0, 9).storm(0, 1));
    }

    private static void stormAsManyAsThereAre() {
        Check.sentence("STORMS .. as many as there are");
        String rule = "index 1;storm 1;";
        NeedleHouse one = ranges(rule, 1, 1, 1, 1);
        Check.due("all four are one STORM", 0, one.storm(0, 0));
        Check.due("all four are one STORM", 4, one.storm(0, 1));
        Check.due("all four are one STORM", NONE, one.storm(1, 0));
        NeedleHouse all = new NeedleHouse();
        for (int i = 0; i < 300; i++) {
            all.read(0, 0, i % 2);
        }
        Check.mean(all, 0, 0, 0);
        Check.rule(all, "window 2;index 1;storm 1;");
        Check.due("all 150", 0, all.storm(0, 0));
        Check.due("all 150", 150, all.storm(0, 1));
        Check.due("all 150", NONE, all.storm(1, 0));
    }

    private static void stormWithoutIndex() {
        Check.sentence("STORMS: .. WINDOWS .. whose INDEX is storm or more (none has none)");
        NeedleHouse house = ranges("storm 0;", 0, LOST, 0, 0, LOST, LOST, LOST, 0);
        Check.due("one without INDEX is in no STORM", 2, house.storm(0, 0));
        Check.due("one without INDEX is in no STORM", 2, house.storm(0, 1));
        Check.due("no more", NONE, house.storm(1, 0));
    }

    private static void quietByIndexThenByNumber() {
        Check.sentence("QUIET: WINDOWS that have an INDEX, by it, the least first, then by number");
        NeedleHouse house = ranges("index 1 2 3 4 5 6 7 8 9;", 9, 3, 0, 3, 0, 1, 9, 2);
        int[] want = {2, 4, 5, 7, 1, 3, 0, 6, NONE};
        for (int k = 0; k < want.length; k++) {
            Check.due("QUIET " + k, want[k], house.quiet(k));
        }
        NeedleHouse like = ranges("index 5;", 4, 3, 2, 1, 0);
        for (int k = 0; k < 5; k++) {
            Check.due("by INDEX, not by RANGE", k, like.quiet(k));
        }
    }

    private static void quietWindowsHaveAnIndex() {
        Check.sentence("QUIET: WINDOWS that have an INDEX");
        NeedleHouse house = ranges("index 1;", 0, LOST, 1, LOST, 0);
        int[] want = {0, 4, 2, NONE};
        for (int k = 0; k < want.length; k++) {
            Check.due("QUIET " + k, want[k], house.quiet(k));
        }
        Check.due("no WINDOW", NONE, ranges("index 1;").quiet(0));
        NeedleHouse none = new NeedleHouse();
        none.lost(0, 0, 300);
        Check.due("none has an INDEX", NONE, none.quiet(0));
    }

    private static void trainTellsItsNumber() {
        Check.sentence("Promise 18: A TRAIN: its number");
        NeedleHouse house = new NeedleHouse();
        int[][] good = {{0, 1}, {0, 300}, {299, 1}, {299, 300}, {150, 150}, {1, 299}, {2, 2}, {3, 3}, {4, 4}, {5, 5}};
        for (int i = 0; i < 10; i++) {
            Check.due("TRAIN " + i, i, house.train(good[i][0], good[i][1]));
            Check.due("TRAINS", i + 1, house.count(2));
        }
    }

    private static void trainWhenThereAre10() {
        Check.sentence("Promise 18: -1: there are 10");
        Twins.refused("an 11th", -1, Pasts::full, house -> house.train(0, 300));
        Twins.refused("an 11th", -1, Pasts::full, house -> house.train(299, 1));
    }

    private static void trainFromAWrongTime() {
        Check.sentence("Promise 18: IllegalArgumentException: the TIME is not 0 to 299");
        for (int wrong : new int[] {LEAST, LOST, -1, 300, GREATEST}) {
            Twins.refusedArgument("from " + wrong, Pasts::rich, house -> house.train(wrong, 1));
            Twins.refusedArgument("from " + wrong, Pasts::none, house -> house.train(wrong, 300));
        }
    }

    private static void trainOfWrongTimes() {
        Check.sentence("Promise 18: IllegalArgumentException: .. or TIMES not 1 to 300.");
        for (int wrong : new int[] {LEAST, LOST, -1, 0, 301, GREATEST}) {
            Twins.refusedArgument("TIMES " + wrong, Pasts::rich, house -> house.train(5, wrong));
            Twins.refusedArgument("TIMES " + wrong, Pasts::none, house -> house.train(0, wrong));
        }
    }

    private static void rangeWithoutThatWindow() {
        Check.sentence("Promise 19: RANGE of a TRACE in a WINDOW; NONE without (so without that WINDOW).");
        NeedleHouse house = house("window 2;", 0, 1, 0, 5, 7);
        Check.due("the first", 1, house.range(0, 0));
        Check.due("the last", 5, house.range(0, 1));
        for (int wrong : new int[] {LEAST, LOST, -1, 2, 3, 149, 150, 1 << 30, GREATEST}) {
            Check.due("WINDOW " + wrong, NONE, house.range(0, wrong));
        }
        for (int wrong : new int[] {LEAST, -1, 4, 150, GREATEST}) {
            Twins.refused("WINDOW " + wrong, NONE, Pasts::rich, one -> one.range(0, wrong));
        }
        Check.due("no WINDOW at all", NONE, new NeedleHouse().range(0, 0));
    }

    private static void rangeOfNoSuchTrace() {
        Check.sentence("Promise 19: (so below): no such .. TRACE");
        for (int wrong : new int[] {LEAST, -1, 3, GREATEST}) {
            Twins.refusedIndex("TRACE " + wrong, Pasts::rich, house -> house.range(wrong, 0));
            Twins.refusedIndex("TRACE " + wrong + ", no such WINDOW", Pasts::none, house -> house.range(wrong, -1));
        }
    }

    private static void indexWithoutThatWindow() {
        Check.sentence("Promise 20: INDEX; NONE likewise.");
        NeedleHouse house = house("window 2;index 1;", 0, 1, 0, 0, 7);
        Check.due("the first", 1, house.index(0));
        Check.due("the last", 0, house.index(1));
        for (int wrong : new int[] {LEAST, LOST, -1, 2, 3, 149, 150, 151, GREATEST}) {
            Check.due("WINDOW " + wrong, NONE, house.index(wrong));
            Twins.refused("WINDOW " + wrong, NONE, Pasts::none, one -> one.index(wrong));
        }
        Twins.refused("asked behind the last", NONE, Pasts::rich, one -> one.index(4));
        NeedleHouse shorter = house("window 2;", 0, 0, 0, 0, 0, 0, 0, 0);
        Check.due("the last of four", 0, shorter.index(3));
        Check.rule(shorter, "window 4;");
        Check.due("two are left", 0, shorter.index(1));
        Check.due("two are left", NONE, shorter.index(2));
        Check.due("two are left", NONE, shorter.quiet(2));
    }

    private static void stormOfEachK() {
        Check.sentence("Promise 21: The first WINDOW (0) of the k-th STORM, or how many it has (1); NONE.");
        NeedleHouse house = ranges("index 1;storm 1;", 1, 1, 0, 1, 1, 1, 0, 0, 1, 1, 1, 1, 0, 1);
        int[][] wants = {{0, 2}, {3, 3}, {8, 4}};
        for (int k = 0; k < wants.length; k++) {
            Check.due("the first of STORM " + k, wants[k][0], house.storm(k, 0));
            Check.due("how many STORM " + k + " has", wants[k][1], house.storm(k, 1));
        }
        for (int wrong : new int[] {LEAST, LOST, -1, 3, 4, 75, GREATEST}) {
            Check.due("STORM " + wrong, NONE, house.storm(wrong, 0));
            Check.due("STORM " + wrong, NONE, house.storm(wrong, 1));
        }
        for (int wrong : new int[] {LEAST, -1, 1, GREATEST}) {
            Twins.refused("STORM " + wrong, NONE, Pasts::rich, one -> one.storm(wrong, 0));
            Twins.refused("STORM " + wrong, NONE, Pasts::rich, one -> one.storm(wrong, 1));
        }
        NeedleHouse most = new NeedleHouse();
        for (int i = 0; i < 300; i++) {
            most.read(0, 0, i % 6 == 1 || i % 6 == 3 ? 1 : 0);
        }
        Check.mean(most, 0, 0, 0);
        Check.rule(most, "window 2;index 1;storm 1;");
        Check.due("the last of 50", 147, most.storm(49, 0));
        Check.due("the last of 50", 2, most.storm(49, 1));
        Check.due("no 51st", NONE, most.storm(50, 0));
    }

    private static void stormAnotherWhat() {
        Check.sentence("Promise 21: IllegalArgumentException: another what.");
        for (int wrong : new int[] {LEAST, LOST, -1, 2, GREATEST}) {
            Twins.refusedArgument("what " + wrong, Pasts::rich, house -> house.storm(0, wrong));
            Twins.refusedArgument("what " + wrong, Pasts::full, house -> house.storm(0, wrong));
        }
    }

    private static void quietOfEachK() {
        Check.sentence("Promise 22: The k-th QUIET WINDOW; NONE.");
        NeedleHouse all = new NeedleHouse();
        for (int i = 0; i < 300; i++) {
            all.read(0, 0, i == 1 ? 1 : 0);
        }
        Check.mean(all, 0, 0, 0);
        Check.rule(all, "window 2;index 1;");
        Check.due("the first", 1, all.quiet(0));
        Check.due("the last but one", 149, all.quiet(148));
        Check.due("the last", 0, all.quiet(149));
        Check.due("INDEX of the last WINDOW", 0, all.index(149));
        Check.due("no WINDOW 150", NONE, all.index(150));
        Check.due("no WINDOW 150", NONE, all.range(0, 150));
        for (int wrong : new int[] {LEAST, LOST, -1, 150, 151, GREATEST}) {
            Check.due("QUIET " + wrong, NONE, all.quiet(wrong));
            Twins.refused("QUIET " + wrong, NONE, Pasts::rich, one -> one.quiet(wrong));
        }
    }
}
