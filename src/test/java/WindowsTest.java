/** Promises 18 to 22: train, range, index, storm, quiet. */
public final class WindowsTest {
    private static final int LOST = Check.LOST;

    public static void main(String[] args) {
        train();
        trainsLeaveOut();
        range();
        rangeByShare();
        share0();
        index();
        indexWithoutRule();
        storms();
        storm0();
        quiet();
        wrongTraces();
        Check.finish();
    }

    private static void train() {
        NeedleHouse house = new NeedleHouse();
        Check.dueArgument("from -1", () -> house.train(-1, 1));
        Check.dueArgument("from 300", () -> house.train(300, 1));
        Check.dueArgument("no TIMES", () -> house.train(0, 0));
        Check.dueArgument("301 TIMES", () -> house.train(0, 301));
        Check.due("no TRAIN came of these", 0, house.count(2));
        Check.due("TRAIN 0", 0, house.train(299, 300));
        for (int i = 1; i < 10; i++) {
            Check.due("TRAIN " + i, i, house.train(0, 1));
        }
        Check.due("an 11th TRAIN", -1, house.train(0, 300));
        Check.due("TRAINS", 10, house.count(2));
        Check.dueArgument("a wrong 11th TRAIN", () -> house.train(0, 0));
        Check.row(house, 0, 0, 5, 6, 7);
        Check.mean(house, 0, 0, 5);
        Check.rule(house, "window 3;");
        Check.due("the 11th is none", 1, house.range(0, 0));
    }

    private static NeedleHouse houseOf(String rule, int... readings) {
        NeedleHouse house = new NeedleHouse();
        Check.row(house, 0, 0, readings);
        Check.mean(house, 0, 0, 1000);
        Check.rule(house, rule);
        return house;
    }

    private static void trainsLeaveOut() {
        NeedleHouse house = houseOf("window 4;share 1 of 2;", 0, 1, 3, 7, 20, 30, 50, 90);
        Check.due("no TRAIN", 7, house.range(0, 0));
        house.train(3, 2);
        Check.due("the last TIME of the WINDOW left out", 3, house.range(0, 0));
        Check.due("the first TIME of the next left out", 60, house.range(0, 1));
        house.train(7, 300);
        Check.due("two are ASKED still", 20, house.range(0, 1));
        house.train(5, 1);
        Check.due("too few are ASKED", -1, house.range(0, 1));
        Check.due("FINAL stays", 1030, house.value(0, 5));
    }

    private static void range() {
        NeedleHouse house = houseOf("window 3;", 5, -5, 0, 1, 1, 1, 8, 9);
        Check.row(house, 1, 2, 0, 0, 0, 0, 0, 0, 0, 0, 0);
        Check.due("WINDOWS of the longest row", 3, house.count(1));
        Check.due("RANGE", 10, house.range(0, 0));
        Check.due("RANGE 0", 0, house.range(0, 1));
        Check.due("RANGE of a row that ends in the WINDOW", 1, house.range(0, 2));
        Check.due("no such WINDOW", -1, house.range(0, 3));
        Check.due("no such WINDOW", -1, house.range(0, -1));
        Check.due("no such WINDOW", -1, house.range(0, Integer.MAX_VALUE));
        Check.due("no such WINDOW", -1, house.range(0, Integer.MIN_VALUE));
        Check.due("no BASELINE, no RANGE", -1, house.range(2, 0));
        NeedleHouse part = houseOf("window 3;", 5, -5, 0, 1, 1);
        Check.due("a WINDOW that is not whole", 1, part.count(1));
        Check.due("a WINDOW that is not whole", -1, part.range(0, 1));
    }

    private static void rangeByShare() {
        NeedleHouse house = houseOf("window 5;share 3 of 5;", 1, 2, 3, LOST, LOST, 1, LOST, 3, LOST, LOST);
        Check.due("just the share", 2, house.range(0, 0));
        Check.due("less than the share", -1, house.range(0, 1));
        Check.rule(house, "window 5;share 2 of 5;");
        Check.due("a smaller share", 2, house.range(0, 1));
        Check.rule(house, "window 5;share 401 of 1000;");
        Check.due("2.005 of 5", -1, house.range(0, 1));
        Check.rule(house, "window 5;");
        Check.due("half of 5 is not 2", -1, house.range(0, 1));
    }

    private static void share0() {
        NeedleHouse house = houseOf("window 2;share 0 of 1;", 4, LOST, LOST, LOST);
        Check.due("one ASKED", 0, house.range(0, 0));
        Check.due("none ASKED", -1, house.range(0, 1));
        Check.due("no INDEX of it", -1, house.index(1));
    }

    private static void index() {
        NeedleHouse house = houseOf("window 2;index 3 5;", 0, 2, 0, 3, 0, 4, 0, 5, LOST, LOST, 0, 9);
        int[] want = {0, 1, 1, 2, -1, 2, -1};
        for (int window = 0; window < want.length; window++) {
            Check.due("INDEX of " + window, want[window], house.index(window));
        }
        Check.due("INDEX of -1", -1, house.index(-1));
        Check.due("INDEX of the greatest", -1, house.index(Integer.MAX_VALUE));
        Check.due("INDEX of the least", -1, house.index(Integer.MIN_VALUE));
        Check.row(house, 1, 2, 0, 4, 0, 1, LOST, LOST, LOST, LOST, 0, 0);
        Check.mean(house, 2, 0, 0);
        Check.due("the greatest RANGE of the TRACES", 1, house.index(0));
        Check.due("the greatest RANGE of the TRACES", 1, house.index(1));
        Check.due("a TRACE without RANGE", 2, house.index(3));
        Check.due("one TRACE has a RANGE", 0, house.index(4));
        Check.rule(house, "window 2;index 0;");
        Check.due("an N of 0", 1, house.index(4));
    }

    private static void indexWithoutRule() {
        int[] steps = {5, 10, 20, 40, 70, 120, 200, 330, 500};
        for (int i = 0; i < steps.length; i++) {
            Check.due("just below " + steps[i], i, houseOf("window 2;", 0, steps[i] - 1).index(0));
            Check.due("just " + steps[i], i + 1, houseOf("window 2;", 0, steps[i]).index(0));
        }
    }

    private static void storms() {
        NeedleHouse house = houseOf("window 2;index 1 2;storm 2;",
                0, 2, 0, 1, 0, 2, 0, 3, 0, 4, LOST, LOST, 0, 2, 0, 9, 0, 0, 0, 2);
        Check.due("the first STORM", 2, house.storm(0, 0));
        Check.due("its WINDOWS", 3, house.storm(0, 1));
        Check.due("the second STORM", 6, house.storm(1, 0));
        Check.due("its WINDOWS", 2, house.storm(1, 1));
        Check.due("one WINDOW is none", -1, house.storm(2, 0));
        Check.due("no third", -1, house.storm(2, 1));
        Check.due("storm(-1)", -1, house.storm(-1, 0));
        Check.dueArgument("storm what 2", () -> house.storm(0, 2));
        Check.dueArgument("storm what -1", () -> house.storm(0, -1));
        Check.dueArgument("storm what 2 without a STORM", () -> new NeedleHouse().storm(0, 2));
        house.read(0, 0, 0);
        house.read(0, 0, 2);
        Check.due("a STORM at the end", 9, house.storm(2, 0));
        Check.due("a STORM at the end", 2, house.storm(2, 1));
        NeedleHouse first = houseOf("window 2;index 1 2;storm 2;", 0, 2, 0, 2, 0, 0);
        Check.due("a STORM from WINDOW 0 on", 0, first.storm(0, 0));
        Check.due("a STORM from WINDOW 0 on", 2, first.storm(0, 1));
        NeedleHouse without = houseOf("window 2;", 0, 70, 0, 69, 0, 70, 0, 70);
        Check.due("storm 5 without a RULE for it", 2, without.storm(0, 0));
    }

    private static void storm0() {
        NeedleHouse house = houseOf("window 2;storm 0;", 0, 0, LOST, LOST, 0, 0, 0, 0);
        Check.due("a WINDOW without INDEX is in no STORM", 2, house.storm(0, 0));
        Check.due("its WINDOWS", 2, house.storm(0, 1));
        Check.due("no more", -1, house.storm(1, 0));
    }

    private static void quiet() {
        NeedleHouse house = houseOf("window 2;index 1 2;", 0, 9, 0, 1, LOST, LOST, 0, 0, 0, 1, 0, 9, 0, 0);
        int[] want = {3, 6, 1, 4, 0, 5, -1};
        for (int k = 0; k < want.length; k++) {
            Check.due("QUIET " + k, want[k], house.quiet(k));
        }
        Check.due("quiet(-1)", -1, house.quiet(-1));
        Check.due("quiet of the greatest", -1, house.quiet(Integer.MAX_VALUE));
        NeedleHouse full = houseOf("window 2;index 0 1 2 3 4 5 6 7 8;");
        full.lost(0, 0, 298);
        full.read(0, 0, 1000);
        full.read(0, 0, 2000);
        Check.mean(full, 0, 299, 2000);
        Check.due("the last WINDOW with the greatest INDEX", 149, full.quiet(0));
        Check.due("its INDEX", 9, full.index(149));
    }

    private static void wrongTraces() {
        NeedleHouse house = new NeedleHouse();
        for (int wrong : new int[] {-1, 3, Integer.MAX_VALUE, Integer.MIN_VALUE}) {
            Check.dueIndex("range", () -> house.range(wrong, 0));
        }
    }
}
