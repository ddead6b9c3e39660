/** The boundary cases of part 1 of the terms and of promises 1 to 7, a sentence a test. */
public final class ReadingBoundsTest {
    private static final int NONE = Check.NONE;
    private static final int LOST = Check.LOST;
    private static final int LEAST = Integer.MIN_VALUE;
    private static final int GREATEST = Integer.MAX_VALUE;

    private interface OfRow {
        int of(NeedleHouse house, int set, int trace);
    }

    public static void main(String[] args) {
        objectOf512Calls();
        setsAndTraces();
        readingsBetweenBounds();
        rowOf300Times();
        shiftOfReadingsThereThen();
        jumpByMoreThanLimit();
        jumpOfOneSetAlone();
        jumpOfReadingsThatAreThere();
        jumpAtFirstAndLastTimes();
        joinedOfNearReadings();
        joinedRoundedDown();
        joinedOfTheNearerReading();
        joinedOfSet0IfBothAreAsNear();
        joinedOfSet0IfNoneIsAhead();
        joinedOfJustOneReading();
        joinedElseLost();
        newObject();
        readTellsHowMany();
        readOfAFullRow();
        readOfNoSuchRow();
        readOfAWrongValue();
        lostTellsHowMany();
        lostBeyond300();
        lostNot1To300();
        lostOfNoSuchRow();
        atLostOrNone();
        atOfNoSuchRow();
        shiftTellsHowMany();
        shiftBeyond30000();
        shiftFromBelow0();
        shiftByTooMuch();
        shiftOfNoSuchRow();
        jumpOfEachK();
        jumpOfNoSuchRow();
        joinedOrLost();
        joinedOfNoSuchTrace();
        Check.finish();
    }

    private static NeedleHouse house(String rule, int[] row0, int[] row1) {
        NeedleHouse house = new NeedleHouse();
        Check.row(house, 0, 0, row0);
        Check.row(house, 1, 0, row1);
        Check.rule(house, rule);
        return house;
    }

    private static int[] row(int... readings) {
        return readings;
    }

    private static void objectOf512Calls() {
        Check.sentence("An object is used for at most 512 calls after it has been made");
        NeedleHouse house = new NeedleHouse();
        for (int i = 0; i < 300; i++) {
            house.read(0, 0, i);
        }
        for (int i = 300; i < 510; i++) {
            house.read(1, 0, i - 300);
        }
        Check.due("the 511th call", 211, house.read(1, 0, 9));
        Check.due("the 512th call", 299, house.at(0, 0, 299));
        NeedleHouse asked = new NeedleHouse();
        for (int i = 0; i < 511; i++) {
            asked.publish();
        }
        Check.due("the 512th call", 511, asked.count(5));
    }

    private static void setsAndTraces() {
        Check.sentence("SETS 0 and 1 have TRACES 0 to 2");
        NeedleHouse house = new NeedleHouse();
        for (int set = 0; set < 2; set++) {
            for (int trace = 0; trace < 3; trace++) {
                Check.due("a row of its own", 1, house.read(set, trace, 10 * set + trace));
            }
        }
        for (int set = 0; set < 2; set++) {
            for (int trace = 0; trace < 3; trace++) {
                Check.due("its reading", 10 * set + trace, house.at(set, trace, 0));
            }
        }
    }

    private static void readingsBetweenBounds() {
        Check.sentence("rows of readings (-30,000 to 30,000, or LOST)");
        NeedleHouse house = new NeedleHouse();
        Check.row(house, 1, 1, -30000, LOST, 30000, -29999, 29999, 0);
        Check.due("the least", -30000, house.at(1, 1, 0));
        Check.due("LOST", -2000000000, house.at(1, 1, 1));
        Check.due("the greatest", 30000, house.at(1, 1, 2));
        Check.due("0 is not LOST", 0, house.at(1, 1, 5));
        Check.due("-1 is not LOST", 1, joinedOf("", 3, -1));
        Check.due("-1 is not LOST", 1, joinedOf("", -1, 3));
        Check.due("-1 is not LOST", 0, joinedOf("near 0;", 0, -1));
        Check.due("-1 is not LOST", -1, joinedOf("near 0;", -1, 0));
        Check.due("-1 is not LOST", 1, house("limit 0;", row(-1, 0), row(-1, -1)).jump(0, 0, 0));
        Check.due("-1 is not LOST", 1, house("limit 0;", row(0, -1), row(5, 5)).jump(0, 0, 0));
        Check.due("-1 is not LOST", 2, house("", row(-1, LOST, -1), row()).shift(0, 0, 0, 1));
    }

    private static void rowOf300Times() {
        Check.sentence("for TIMES 0, 1, .. one behind another, 300 at most");
        NeedleHouse house = new NeedleHouse();
        for (int i = 0; i < 300; i++) {
            house.read(0, 2, i - 150);
        }
        for (int time : new int[] {0, 1, 2, 149, 150, 151, 298, 299}) {
            Check.due("the reading at " + time, time - 150, house.at(0, 2, time));
        }
        Check.due("no TIME 300", LOST, house.at(0, 2, 300));
        Check.due("a full row beside an empty one", 1, house.read(1, 2, 5));
        Check.due("a full row beside an empty one", 1, house.read(0, 1, 5));
    }

    private static void shiftOfReadingsThereThen() {
        Check.sentence("A SHIFT adds a number to all readings of a row from a TIME on that are there then.");
        NeedleHouse house = new NeedleHouse();
        for (int set = 0; set < 2; set++) {
            for (int trace = 0; trace < 3; trace++) {
                Check.row(house, set, trace, 1, 2, LOST, 4);
            }
        }
        house.shift(1, 2, 1, 10);
        house.read(1, 2, 5);
        house.read(0, 2, 5);
        int[] want = {1, 12, LOST, 14, 5, LOST};
        for (int time = 0; time < want.length; time++) {
            Check.due("the shifted row at " + time, want[time], house.at(1, 2, time));
        }
        for (int time = 0; time < 4; time++) {
            int was = new int[] {1, 2, LOST, 4}[time];
            Check.due("the other SET", was, house.at(0, 2, time));
            Check.due("another TRACE", was, house.at(1, 1, time));
            Check.due("another row", was, house.at(0, 0, time));
        }
        Check.due("a reading behind LOST ones", 6, house.lost(1, 2, 1));
        house.shift(1, 2, 3, -4);
        Check.due("shifted twice", 10, house.at(1, 2, 3));
        Check.due("LOST stays LOST", LOST, house.at(1, 2, 5));
    }

    private static void jumpByMoreThanLimit() {
        Check.sentence("its readings at that TIME and the one ahead are there and differ by more than LIMIT");
        int[] still = {0, 0, 0};
        for (int way = -1; way <= 1; way += 2) {
            Check.due("by 50", NONE, house("", row(0, 50 * way, 0), still).jump(0, 0, 0));
            Check.due("by 51", 1, house("", row(0, 51 * way, 0), still).jump(0, 0, 0));
            Check.due("limit 0, by 0", NONE, house("limit 0;", row(7, 7, 7), still).jump(0, 0, 0));
            Check.due("limit 0, by 1", 1, house("limit 0;", row(7, 7 + way, 7), still).jump(0, 0, 0));
            Check.due("limit 10000", NONE, house("limit 10000;", row(0, 10000 * way), still).jump(0, 0, 0));
            Check.due("limit 10000, more", 1, house("limit 10000;", row(0, 10001 * way), still).jump(0, 0, 0));
            Check.due("from bound to bound", 1,
                    house("limit 10000;", row(-30000 * way, 30000 * way), still).jump(0, 0, 0));
        }
        Check.due("a slow rise is none", NONE, house("", row(0, 50, 100), still).jump(0, 0, 0));
    }

    private static void jumpOfOneSetAlone() {
        Check.sentence("and so are the other SET's, which differ by LIMIT at most");
        for (int way = -1; way <= 1; way += 2) {
            NeedleHouse alone = house("", row(0, 51), row(0, 50 * way));
            Check.due("SET 0 alone", 1, alone.jump(0, 0, 0));
            Check.due("SET 1 has none", NONE, alone.jump(1, 0, 0));
            NeedleHouse both = house("", row(0, 51), row(0, 51 * way));
            Check.due("both", NONE, both.jump(0, 0, 0));
            Check.due("both", NONE, both.jump(1, 0, 0));
            NeedleHouse other = house("", row(0, 50 * way), row(0, -51));
            Check.due("SET 1 alone", 1, other.jump(1, 0, 0));
            Check.due("SET 0 has none", NONE, other.jump(0, 0, 0));
            NeedleHouse still = house("limit 0;", row(0, way), row(3, 3));
            Check.due("limit 0, the other by 0", 1, still.jump(0, 0, 0));
            Check.due("limit 0, both by 1", NONE, house("limit 0;", row(0, way), row(3, 4)).jump(0, 0, 0));
        }
    }

    private static void jumpOfReadingsThatAreThere() {
        Check.sentence("its readings at that TIME and the one ahead are there .. and so are the other SET's");
        int[] leap = {0, 100};
        int[] still = {0, 0};
        Check.due("all four", 1, house("", leap, still).jump(0, 0, 0));
        int[][] holed = {{LOST, 100}, {0, LOST}, {LOST, LOST}, {0}, {}};
        for (int[] row : holed) {
            Check.due("own readings missing", NONE, house("", row, still).jump(0, 0, 0));
            Check.due("the other's missing", NONE, house("", still, row).jump(0, 0, 0));
            Check.due("own readings missing", NONE, house("", still, row).jump(1, 0, 0));
        }
        int[][] stillHoled = {{LOST, 0}, {0, LOST}, {LOST, LOST}, {0}, {}};
        for (int[] row : stillHoled) {
            Check.due("the other's missing", NONE, house("", leap, row).jump(0, 0, 0));
            Check.due("the other's missing", NONE, house("", row, leap).jump(1, 0, 0));
        }
        Check.due("a leap over a LOST one", NONE, house("", row(0, LOST, 100), row(0, 0, 0)).jump(0, 0, 0));
        Check.due("LOST ones by limit 10000", NONE,
                house("limit 10000;", row(0, LOST), row(0, LOST)).jump(0, 0, 0));
    }

    private static void jumpAtFirstAndLastTimes() {
        Check.sentence("JUMP of a SET in a TRACE at a TIME: its readings at that TIME and the one ahead");
        Check.due("none ahead of TIME 0", NONE, house("limit 0;", row(30000), row(30000)).jump(0, 0, 0));
        Check.due("none ahead of TIME 0", NONE, house("limit 0;", row(30000), row(0)).jump(0, 0, 0));
        NeedleHouse house = new NeedleHouse();
        for (int set = 0; set < 2; set++) {
            house.lost(set, 1, 298);
            house.read(set, 1, 0);
            house.read(set, 1, 51 * set);
        }
        Check.due("at the last TIME", 299, house.jump(1, 1, 0));
        Check.due("of this SET alone", NONE, house.jump(0, 1, 0));
        Check.due("of this TRACE alone", NONE, house.jump(1, 0, 0));
    }

    private static int joinedOf(String rule, int reading0, int reading1) {
        return house(rule, row(reading0), row(reading1)).joined(0, 0);
    }

    private static void joinedOfNearReadings() {
        Check.sentence("both readings are there and differ by NEAR at most: their sum by 2");
        Check.due("by 5", 102, joinedOf("", 100, 105));
        Check.due("by 5", 102, joinedOf("", 105, 100));
        Check.due("by 6", 100, joinedOf("", 100, 106));
        Check.due("by 6", 106, joinedOf("", 106, 100));
        Check.due("near 0, by 0", 8, joinedOf("near 0;", 8, 8));
        Check.due("near 0, by 1", 9, joinedOf("near 0;", 9, 8));
        Check.due("near 10000, by so much", 5000, joinedOf("near 10000;", 10000, 0));
        Check.due("near 10000, by more", 10001, joinedOf("near 10000;", 10001, 0));
        Check.due("the greatest", 30000, joinedOf("", 30000, 30000));
        Check.due("the least", -30000, joinedOf("", -30000, -30000));
        Check.due("from bound to bound", 30000, joinedOf("near 10000;", 30000, -30000));
    }

    private static void joinedRoundedDown() {
        Check.sentence("their sum by 2, rounded down");
        Check.due("3.5", 3, joinedOf("", 3, 4));
        Check.due("-3.5", -4, joinedOf("", -3, -4));
        Check.due("-0.5", -1, joinedOf("", -1, 0));
        Check.due("0.5", 0, joinedOf("", 1, 0));
        Check.due("-1", -1, joinedOf("", -2, 0));
        Check.due("29999.5", 29999, joinedOf("", 30000, 29999));
        Check.due("-29999.5", -30000, joinedOf("", -29999, -30000));
    }

    private static int joinedBehind(int[] row0, int[] row1) {
        return house("", row0, row1).joined(0, row0.length - 1);
    }

    private static void joinedOfTheNearerReading() {
        Check.sentence("both differ by more: the one that is nearer to JOINED at the TIME ahead");
        Check.due("SET 0 nearer by 1", 91, joinedBehind(row(100, 91), row(100, 110)));
        Check.due("SET 1 nearer by 1", 110, joinedBehind(row(100, 89), row(100, 110)));
        Check.due("SET 1 nearer, below", 91, joinedBehind(row(100, 110), row(100, 91)));
        Check.due("ahead is JOINED of both: 102", 111, joinedBehind(row(100, 92), row(104, 111)));
        Check.due("ahead is JOINED of both, not SET 1's", 92, joinedBehind(row(100, 92), row(104, 113)));
        Check.due("ahead is the only reading of SET 1", 14, joinedBehind(row(LOST, 5), row(10, 14)));
        Check.due("ahead is SET 0's", -40, joinedBehind(row(0, 0, -40), row(60, 50, 41)));
        Check.due("ahead is SET 1's", 66, joinedBehind(row(60, 50, 66), row(60, 60, 53)));
        Check.due("nearer from bound to bound", 30000, joinedBehind(row(1, -30000), row(1, 30000)));
        Check.due("nearer from bound to bound", -30000, joinedBehind(row(-1, 30000), row(-1, -30000)));
    }

    private static void joinedOfSet0IfBothAreAsNear() {
        Check.sentence("the one of SET 0, if both are as near");
        Check.due("SET 0 below", 90, joinedBehind(row(100, 90), row(100, 110)));
        Check.due("SET 0 above", 110, joinedBehind(row(100, 110), row(100, 90)));
        Check.due("from bound to bound", 30000, joinedBehind(row(0, 30000), row(0, -30000)));
    }

    private static void joinedOfSet0IfNoneIsAhead() {
        Check.sentence("the one of SET 0, .. or there is none");
        Check.due("at TIME 0", 30000, joinedBehind(row(30000), row(0)));
        Check.due("at TIME 0", -30000, joinedBehind(row(-30000), row(-29000)));
        Check.due("LOST ahead", 500, joinedBehind(row(0, LOST, 500), row(0, LOST, 0)));
        Check.due("one there ahead of LOST counts for nothing", -500,
                joinedBehind(row(0, LOST, -500), row(0, LOST, -3)));
    }

    private static void joinedOfJustOneReading() {
        Check.sentence("just one is there: it");
        Check.due("SET 0, the other LOST", 8, joinedBehind(row(8), row(LOST)));
        Check.due("SET 1, the other LOST", 8, joinedBehind(row(LOST), row(8)));
        Check.due("SET 0, the other too short", 8, joinedBehind(row(3, 8), row(3)));
        Check.due("SET 1, the other empty", 30000, house("", row(), row(30000)).joined(0, 0));
        Check.due("far from the one ahead", -30000, joinedBehind(row(30000, LOST), row(30000, -30000)));
    }

    private static void joinedElseLost() {
        Check.sentence("else LOST");
        Check.due("both LOST", LOST, joinedBehind(row(1, LOST), row(1, LOST)));
        Check.due("one LOST, one too short", LOST, joinedBehind(row(1, LOST), row(1)));
        Check.due("both too short", LOST, house("", row(1), row(1)).joined(0, 1));
        Check.due("both empty", LOST, new NeedleHouse().joined(0, 0));
    }

    private static void newObject() {
        Check.sentence("Promise 1: No readings, MEASURES, TRAINS, no RULE; nothing PUBLISHED.");
        NeedleHouse house = new NeedleHouse();
        for (int set = 0; set < 2; set++) {
            for (int trace = 0; trace < 3; trace++) {
                Check.due("no readings", LOST, house.at(set, trace, 0));
                Check.due("no readings", LOST, house.at(set, trace, 299));
                Check.due("no JUMPS", NONE, house.jump(set, trace, 0));
            }
        }
        for (int trace = 0; trace < 3; trace++) {
            Check.due("no MEASURES", LOST, house.told(trace, 0, 0));
            Check.due("no POINTS", 0, house.pieces(trace));
            Check.due("no PIECE", LOST, house.piece(trace, 0, 1));
            Check.due("no BASELINE", LOST, house.baseline(trace, 0));
            Check.due("nothing PUBLISHED", LOST, house.published(trace, 299));
            Check.due("nothing CHANGED", NONE, house.changed(trace, 0));
        }
        for (int what = 0; what <= 5; what++) {
            Check.due("count(" + what + ")", 0, house.count(what));
        }
        Check.due("no FAULT", NONE, house.fault());
        Check.due("no WINDOW", NONE, house.index(0));
        Check.due("no STORM", NONE, house.storm(0, 0));
        Check.due("no QUIET one", NONE, house.quiet(0));
        Check.due("an empty RULE from an empty TAPE", 0, house.rule(0));
        for (int set = 0; set < 2; set++) {
            for (int trace = 0; trace < 3; trace++) {
                Check.due("the first reading", 1, house.read(set, trace, 1));
            }
        }
        Check.due("the first MEASURE", 0, Check.mean(house, 0, 0, 0));
        Check.due("the first TRAIN", 0, house.train(0, 1));
        new NeedleHouse().read(0, 0, 5);
        Check.due("no object knows of another", LOST, new NeedleHouse().at(0, 0, 0));
    }

    private static void readTellsHowMany() {
        Check.sentence("Promise 2: The next reading of a row: how many it has");
        NeedleHouse house = new NeedleHouse();
        Check.due("the first", 1, house.read(1, 0, 5));
        house.lost(1, 0, 297);
        Check.due("the 299th, LOST ones count", 299, house.read(1, 0, 5));
        Check.due("the 300th", 300, house.read(1, 0, 6));
        Check.due("it stands there", 6, house.at(1, 0, 299));
    }

    private static void readOfAFullRow() {
        Check.sentence("Promise 2: NONE, doing nothing: it has 300.");
        for (int set = 0; set < 2; set++) {
            for (int trace = 0; trace < 3; trace++) {
                int s = set;
                int t = trace;
                Twins.refused("a 301st reading", NONE, Pasts::full, house -> house.read(s, t, 12));
            }
        }
        Twins.refused("a reading behind 300 LOST ones", NONE, house -> house.lost(0, 0, 300),
                house -> house.read(0, 0, 12));
    }

    private static void noSuchRow(String what, OfRow call) {
        for (int wrong : new int[] {LEAST, -1, 2, 3, GREATEST}) {
            Twins.refusedIndex(what + ", SET " + wrong, Pasts::rich, house -> call.of(house, wrong, 0));
        }
        for (int wrong : new int[] {LEAST, -1, 3, 4, GREATEST}) {
            Twins.refusedIndex(what + ", TRACE " + wrong, Pasts::rich, house -> call.of(house, 1, wrong));
            Twins.refusedIndex(what + ", TRACE " + wrong + ", all full", Pasts::full,
                    house -> call.of(house, 0, wrong));
        }
        Twins.refusedIndex(what + ", both wrong", Pasts::none, house -> call.of(house, 2, 3));
    }

    private static void readOfNoSuchRow() {
        Check.sentence("Promise 2: IndexOutOfBoundsException: no such SET, TRACE");
        noSuchRow("read", (house, set, trace) -> house.read(set, trace, 5));
    }

    private static void readOfAWrongValue() {
        Check.sentence("Promise 2: IllegalArgumentException: the value.");
        for (int wrong : new int[] {LEAST, -30001, 30001, 60000, GREATEST}) {
            Twins.refusedArgument("read(" + wrong + ")", Pasts::rich, house -> house.read(1, 2, wrong));
        }
        Twins.refusedArgument("in an empty row", Pasts::none, house -> house.read(0, 0, 30001));
        for (int good : new int[] {-30000, 30000}) {
            NeedleHouse house = new NeedleHouse();
            Check.due("read(" + good + ")", 1, house.read(0, 0, good));
            Check.due("it stands there", good, house.at(0, 0, 0));
        }
    }

    private static void lostTellsHowMany() {
        Check.sentence("Promise 3: The next ones, so many, are LOST: how many the row has");
        NeedleHouse house = new NeedleHouse();
        Check.due("the least", 1, house.lost(0, 1, 1));
        house.read(0, 1, 5);
        Check.due("behind a reading", 5, house.lost(0, 1, 3));
        Check.due("the reading stays", 5, house.at(0, 1, 1));
        for (int time : new int[] {0, 2, 3, 4}) {
            Check.due("LOST at " + time, LOST, house.at(0, 1, time));
        }
        Check.due("a reading behind them", 6, house.read(0, 1, 7));
        Check.due("a reading behind them", 7, house.at(0, 1, 5));
        Check.due("the greatest", 300, house.lost(1, 1, 300));
        Check.due("TIMES", 300, house.count(0));
    }

    private static void lostBeyond300() {
        Check.sentence("Promise 3: NONE, doing nothing: there would be more than 300.");
        for (int has : new int[] {1, 150, 299, 300}) {
            Twins.Past past = house -> house.lost(1, 0, has);
            Twins.refused("too many by 1 behind " + has, NONE, past, house -> house.lost(1, 0, 301 - has));
            Twins.refused("300 behind " + has, NONE, past, house -> house.lost(1, 0, 300));
            if (has < 300) {
                NeedleHouse house = new NeedleHouse();
                past.live(house);
                Check.due("just so many", 300, house.lost(1, 0, 300 - has));
            }
        }
        Twins.refused("in a full row", NONE, Pasts::full, house -> house.lost(0, 2, 1));
    }

    private static void lostNot1To300() {
        Check.sentence("Promise 3: IllegalArgumentException: they are not 1 to 300.");
        for (int wrong : new int[] {LEAST, -300, -1, 0, 301, GREATEST}) {
            Twins.refusedArgument("lost(" + wrong + ")", Pasts::rich, house -> house.lost(0, 1, wrong));
            Twins.refusedArgument("lost(" + wrong + ") in an empty row", Pasts::none,
                    house -> house.lost(1, 1, wrong));
        }
    }

    private static void lostOfNoSuchRow() {
        Check.sentence("Promise 3: (so below): no such SET, TRACE");
        noSuchRow("lost", (house, set, trace) -> house.lost(set, trace, 1));
    }

    private static void atLostOrNone() {
        Check.sentence("Promise 4: A reading; LOST: it is, or there is none.");
        NeedleHouse house = new NeedleHouse();
        Check.row(house, 0, 0, -30000, LOST, 30000);
        Check.due("the first", -30000, house.at(0, 0, 0));
        Check.due("it is LOST", LOST, house.at(0, 0, 1));
        Check.due("the last", 30000, house.at(0, 0, 2));
        for (int time : new int[] {LEAST, LOST, -1, 3, 299, 300, 301, GREATEST}) {
            Check.due("none at " + time, LOST, house.at(0, 0, time));
            Twins.refused("asked at " + time, LOST, Pasts::none, one -> one.at(0, 0, time));
        }
        Twins.refused("asked of a full row", 361, Pasts::full, one -> one.at(0, 0, 299));
    }

    private static void atOfNoSuchRow() {
        Check.sentence("Promise 4: (so below): no such SET, TRACE");
        noSuchRow("at", (house, set, trace) -> house.at(set, trace, 0));
    }

    private static void shiftTellsHowMany() {
        Check.sentence("Promise 5: A SHIFT: how many readings it changed");
        int[][] wants = {{0, 3}, {1, 2}, {2, 2}, {3, 1}, {4, 0}, {299, 0}, {300, 0}, {GREATEST, 0}};
        for (int[] want : wants) {
            NeedleHouse house = house("", row(5, LOST, 6, 7), row(1, 1, 1, 1, 1, 1));
            Check.due("from " + want[0], want[1], house.shift(0, 0, want[0], 3));
            Check.due("the last one", want[1] > 0 ? 10 : 7, house.at(0, 0, 3));
        }
        Check.due("an empty row", 0, new NeedleHouse().shift(0, 0, 0, 3));
        NeedleHouse lost = new NeedleHouse();
        lost.lost(0, 0, 300);
        Check.due("a row of LOST ones", 0, lost.shift(0, 0, 0, 60000));
        NeedleHouse full = new NeedleHouse();
        for (int i = 0; i < 300; i++) {
            full.read(0, 0, 0);
        }
        Check.due("a full row", 300, full.shift(0, 0, 0, -30000));
        Check.due("the last of a full row", 1, full.shift(0, 0, 299, 60000));
        Check.due("the last of a full row", 30000, full.at(0, 0, 299));
        Check.due("the last but one", -30000, full.at(0, 0, 298));
    }

    private static void shiftBeyond30000() {
        Check.sentence("Promise 5: NONE, and nothing changes: one would be beyond 30,000.");
        for (int way = -1; way <= 1; way += 2) {
            int w = way;
            Twins.Past past = house -> Check.row(house, 0, 0, 3 * w, LOST, 29000 * w, 28000 * w);
            Twins.refused("one in the middle", NONE, past, house -> house.shift(0, 0, 0, 1001 * w));
            Twins.Past last = house -> Check.row(house, 0, 0, 3 * w, LOST, 28000 * w, 29000 * w);
            Twins.refused("the last one", NONE, last, house -> house.shift(0, 0, 0, 1001 * w));
            Twins.refused("the last one alone", NONE, last, house -> house.shift(0, 0, 3, 1001 * w));
            Twins.Past first = house -> Check.row(house, 0, 0, 29000 * w, LOST, 28000 * w, 3 * w);
            Twins.refused("the first one", NONE, first, house -> house.shift(0, 0, 0, 1001 * w));
            Twins.refused("by far", NONE, first, house -> house.shift(0, 0, 0, 60000 * w));
            Twins.refused("down from the other bound", NONE, first, house -> house.shift(0, 0, 0, -60000 * w));
            NeedleHouse house = new NeedleHouse();
            first.live(house);
            Check.due("just 30,000", 3, house.shift(0, 0, 0, 1000 * w));
            Check.due("just 30,000", 30000 * w, house.at(0, 0, 0));
            Check.due("one ahead of the TIME doesn't count", 2, house.shift(0, 0, 1, 1000 * w));
            Check.due("it stays", 30000 * w, house.at(0, 0, 0));
            Check.due("the next one", 30000 * w, house.at(0, 0, 2));
        }
    }

    private static void shiftFromBelow0() {
        Check.sentence("Promise 5: IllegalArgumentException: the TIME is below 0");
        for (int wrong : new int[] {LEAST, LOST, -2, -1}) {
            Twins.refusedArgument("from " + wrong, Pasts::rich, house -> house.shift(0, 0, wrong, 1));
            Twins.refusedArgument("from " + wrong + ", an empty row", Pasts::none,
                    house -> house.shift(0, 0, wrong, 1));
        }
        NeedleHouse house = house("", row(5), row());
        Check.due("from 0", 1, house.shift(0, 0, 0, 1));
        Check.due("from 0", 6, house.at(0, 0, 0));
    }

    private static void shiftByTooMuch() {
        Check.sentence("Promise 5: IllegalArgumentException: .. or the number not -60,000 to 60,000.");
        for (int wrong : new int[] {LEAST, -60001, 60001, GREATEST}) {
            Twins.refusedArgument("by " + wrong, Pasts::rich, house -> house.shift(0, 0, 0, wrong));
            Twins.refusedArgument("by " + wrong + ", an empty row", Pasts::none,
                    house -> house.shift(0, 0, 0, wrong));
            Twins.refusedArgument("by " + wrong + ", behind the row", Pasts::rich,
                    house -> house.shift(0, 0, 300, wrong));
        }
        NeedleHouse house = house("", row(-30000), row());
        Check.due("by 60,000", 1, house.shift(0, 0, 0, 60000));
        Check.due("by 60,000", 30000, house.at(0, 0, 0));
        Check.due("by -60,000", 1, house.shift(0, 0, 0, -60000));
        Check.due("by -60,000", -30000, house.at(0, 0, 0));
        Check.due("by 60,000, an empty row", 0, house.shift(1, 0, 0, 60000));
        Check.due("by -60,000, an empty row", 0, house.shift(1, 0, 0, -60000));
    }

    private static void shiftOfNoSuchRow() {
        Check.sentence("Promise 5: (so below): no such SET, TRACE");
        noSuchRow("shift", (house, set, trace) -> house.shift(set, trace, 0, 1));
    }

    private static void jumpOfEachK() {
        Check.sentence("Promise 6: The TIME of the k-th JUMP of a row; NONE.");
        NeedleHouse house = new NeedleHouse();
        for (int i = 0; i < 200; i++) {
            house.read(0, 0, i % 2 * 51);
            house.read(1, 0, 0);
        }
        for (int k : new int[] {0, 1, 2, 99, 197, 198}) {
            Check.due("JUMP " + k, k + 1, house.jump(0, 0, k));
        }
        for (int k : new int[] {LEAST, -1, 199, 200, 300, GREATEST}) {
            Check.due("no JUMP " + k, NONE, house.jump(0, 0, k));
            Twins.refused("no JUMP " + k, NONE, Pasts::rich, one -> one.jump(0, 0, k));
        }
    }

    private static void jumpOfNoSuchRow() {
        Check.sentence("Promise 6: (so below): no such SET, TRACE");
        noSuchRow("jump", (house, set, trace) -> house.jump(set, trace, 0));
    }

    private static void joinedOrLost() {
        Check.sentence("Promise 7: JOINED; LOST.");
        NeedleHouse house = new NeedleHouse();
        house.read(0, 1, 4);
        house.lost(1, 1, 299);
        house.read(1, 1, 9);
        Check.due("at TIME 0", 4, house.joined(1, 0));
        Check.due("at TIME 1", LOST, house.joined(1, 1));
        Check.due("at TIME 298", LOST, house.joined(1, 298));
        Check.due("at TIME 299", 9, house.joined(1, 299));
        for (int time : new int[] {LEAST, LOST, -1, 300, 301, GREATEST}) {
            Check.due("at TIME " + time, LOST, house.joined(1, time));
            Twins.refused("at TIME " + time, LOST, Pasts::full, one -> one.joined(1, time));
        }
    }

    private static void joinedOfNoSuchTrace() {
        Check.sentence("Promise 7: (so below): no such .. TRACE");
        for (int wrong : new int[] {LEAST, -1, 3, GREATEST}) {
            Twins.refusedIndex("joined, TRACE " + wrong, Pasts::rich, house -> house.joined(wrong, 0));
            Twins.refusedIndex("joined, TRACE " + wrong + ", no such TIME", Pasts::rich,
                    house -> house.joined(wrong, -1));
        }
    }
}
