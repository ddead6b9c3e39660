/** The boundary cases of part 2 of the terms and of promises 8 to 14, a sentence a test. */
public final class MeasureBoundsTest {
    private static final int LOST = Check.LOST;
    private static final int LEAST = Integer.MIN_VALUE;
    private static final int GREATEST = Integer.MAX_VALUE;

    private interface OfTrace {
        int of(NeedleHouse house, int trace);
    }

    public static void main(String[] args) {
        twentyMeasuresAtMost();
        measuresAtRisingTimes();
        positionsBetweenBounds();
        endOfAllMeasuresThen();
        endBetweenBounds();
        end3AtFirst();
        meanRoundedDown();
        leftOfTheTwoPairs();
        pointIfJoinedIsThere();
        pointIsMeanLessJoined();
        piecesFromTheFirstPointOn();
        pieceOfAsManyPointsAsCanBe();
        pieceWithEnd0();
        pieceWithTheGreatestEnd();
        pieceWithEndsOfTheirOwn();
        fewestAndMostPoints();
        slopeNearestTo0();
        lineInTheMiddle();
        baselineRoundedDown();
        baselineOfTheLastPieceNotBehind();
        baselineAheadOfAll();
        noBaselineWithoutPoints();
        finalOfBothTogether();
        finalLostWithoutOne();
        endTellsWhatItWas();
        endNoneSuch();
        measureTellsItsNumber();
        measureWhenThereAre20();
        measureAtOrAheadOfAnother();
        measureTheFirstOfThese();
        measureWithAWrongPosition();
        measureAtAWrongTime();
        measureOfNoSuchTrace();
        toldOfAMeasure();
        toldWithoutAPoint();
        toldWithoutAMeasure();
        toldAnotherWhat();
        piecesTellHowMany();
        pieceInLowestTerms();
        pieceWithoutOne();
        pieceAnotherWhat();
        baselineAtTimes0To299();
        valueOrLost();
        noSuchTraces();
        Check.finish();
    }

    /** A house whose TRACE 0 has so many readings of 0, so that each POINT is the MEAN. */
    private static NeedleHouse zeros(int many) {
        NeedleHouse house = new NeedleHouse();
        for (int i = 0; i < many; i++) {
            house.read(0, 0, 0);
        }
        return house;
    }

    /** POINTS as they are told, at TIMES 0, 1, .. with one END. */
    private static NeedleHouse points(int end, int... points) {
        NeedleHouse house = zeros(points.length);
        house.end(end);
        for (int time = 0; time < points.length; time++) {
            Check.mean(house, 0, time, points[time]);
        }
        return house;
    }

    private static void slope(String what, int upper, int lower, NeedleHouse house) {
        Check.due(what + ": upper number", upper, house.piece(0, 0, 2));
        Check.due(what + ": lower number", lower, house.piece(0, 0, 3));
    }

    private static void twentyMeasuresAtMost() {
        Check.sentence("MEASURES of a TRACE, 20 at most");
        NeedleHouse house = new NeedleHouse();
        for (int trace = 0; trace < 3; trace++) {
            for (int i = 0; i < 20; i++) {
                Check.due("of each TRACE", i, Check.mean(house, trace, i, 100 * trace + i));
            }
        }
        for (int trace = 0; trace < 3; trace++) {
            Check.due("no 21st", -1, Check.mean(house, trace, 20, 0));
            Check.due("the first stands", 100 * trace, house.told(trace, 0, 1));
            Check.due("the last stands", 100 * trace + 19, house.told(trace, 19, 1));
        }
    }

    private static void measuresAtRisingTimes() {
        Check.sentence("at rising TIMES");
        NeedleHouse house = new NeedleHouse();
        Check.due("the first TIME", 0, Check.mean(house, 0, 0, 5));
        Check.due("the same", -2, Check.mean(house, 0, 0, 6));
        Check.due("the next", 1, Check.mean(house, 0, 1, 7));
        Check.due("the last TIME", 2, Check.mean(house, 0, 299, 8));
        Check.due("nothing behind it", -2, Check.mean(house, 0, 299, 9));
        Check.due("another TRACE begins anew", 0, Check.mean(house, 1, 0, 5));
    }

    private static void positionsBetweenBounds() {
        Check.sentence("four positions (-100,000 to 100,000 each)");
        NeedleHouse house = new NeedleHouse();
        int least = -100000;
        Check.due("all the least", 0, house.measure(0, 0, least, least, least, least));
        Check.due("all the greatest", 1, house.measure(0, 1, -least, -least, -least, -least));
        Check.due("MEAN of the least", -100000, house.told(0, 0, 1));
        Check.due("MEAN of the greatest", 100000, house.told(0, 1, 1));
    }

    private static void endOfAllMeasuresThen() {
        Check.sentence("an END: the one that is told for all MEASURES then");
        NeedleHouse house = new NeedleHouse();
        Check.mean(house, 0, 0, 0);
        house.end(8);
        Check.mean(house, 0, 1, 0);
        Check.mean(house, 2, 1, 0);
        house.end(9);
        Check.due("told ahead of all", 3, house.told(0, 0, 3));
        Check.due("told then", 8, house.told(0, 1, 3));
        Check.due("told for every TRACE", 8, house.told(2, 0, 3));
    }

    private static void endBetweenBounds() {
        Check.sentence("END .. (0 to 1,000; ..)");
        NeedleHouse house = new NeedleHouse();
        house.end(0);
        Check.mean(house, 0, 0, 0);
        house.end(1000);
        Check.mean(house, 0, 1, 0);
        Check.due("the least", 0, house.told(0, 0, 3));
        Check.due("the greatest", 1000, house.told(0, 1, 3));
    }

    private static void end3AtFirst() {
        Check.sentence("END .. (..; 3 at first)");
        NeedleHouse house = new NeedleHouse();
        Check.mean(house, 1, 0, 0);
        Check.due("END of a MEASURE", 3, house.told(1, 0, 3));
        Check.due("what it was", 3, house.end(3));
        Check.due("missed by 3: one flat PIECE", 0, points(3, 0, 6).piece(0, 0, 2));
        NeedleHouse two = zeros(2);
        Check.mean(two, 0, 0, 0);
        Check.mean(two, 0, 1, 6);
        Check.due("missed by 3", 0, two.piece(0, 0, 2));
        two = zeros(2);
        Check.mean(two, 0, 0, 0);
        Check.mean(two, 0, 1, 7);
        Check.due("not missed by 4", 1, two.piece(0, 0, 2));
    }

    private static void meanRoundedDown() {
        Check.sentence("MEAN: their sum by 4, rounded down.");
        int[][] wants = {{0, 0}, {1, 0}, {2, 0}, {3, 0}, {4, 1}, {-1, -1}, {-2, -1}, {-3, -1}, {-4, -1}, {-5, -2}};
        for (int[] want : wants) {
            NeedleHouse house = new NeedleHouse();
            house.measure(0, 0, 100000, want[0], -100000, 0);
            Check.due("of " + want[0], want[1], house.told(0, 0, 1));
        }
        NeedleHouse house = new NeedleHouse();
        house.measure(0, 0, 100000, 100000, 100000, 99999);
        house.measure(0, 1, -99999, -100000, -100000, -100000);
        Check.due("just below the greatest", 99999, house.told(0, 0, 1));
        Check.due("just above the least", -100000, house.told(0, 1, 1));
    }

    private static void leftOfTheTwoPairs() {
        Check.sentence("LEFT: how far the sum of the first two is from that of the last two.");
        int[][] wants = {{1, 2, 2, 1, 0}, {1, 0, 0, 0, 1}, {0, 1, 0, 0, 1}, {0, 0, 1, 0, 1}, {0, 0, 0, 1, 1},
            {100000, 100000, -100000, -100000, 400000}, {-100000, -100000, 100000, 100000, 400000},
            {100000, -100000, 100000, -100000, 0}};
        for (int[] want : wants) {
            NeedleHouse house = new NeedleHouse();
            house.measure(2, 0, want[0], want[1], want[2], want[3]);
            Check.due("of " + java.util.Arrays.toString(want), want[4], house.told(2, 0, 2));
        }
    }

    private static void pointIfJoinedIsThere() {
        Check.sentence("POINT of a MEASURE, if JOINED is there at its TIME");
        NeedleHouse house = new NeedleHouse();
        Check.mean(house, 0, 0, 50);
        Check.mean(house, 0, 1, 50);
        Check.mean(house, 0, 299, 50);
        Check.due("no reading yet", LOST, house.told(0, 0, 4));
        house.lost(0, 0, 1);
        Check.due("a LOST one", LOST, house.told(0, 0, 4));
        house.read(0, 0, 1);
        Check.due("the TIME ahead stays without", LOST, house.told(0, 0, 4));
        Check.due("there now", 49, house.told(0, 1, 4));
        house.read(1, 0, 2);
        Check.due("there by the other SET", 48, house.told(0, 0, 4));
        house.lost(1, 0, 298);
        Check.due("LOST at the last TIME", LOST, house.told(0, 2, 4));
        house.lost(0, 0, 297);
        house.read(0, 0, 3);
        Check.due("there at the last TIME", 47, house.told(0, 2, 4));
    }

    private static void pointIsMeanLessJoined() {
        Check.sentence("POINT ..: MEAN less that");
        NeedleHouse house = new NeedleHouse();
        Check.row(house, 0, 0, 30000, -30000, 7);
        Check.row(house, 1, 0, LOST, LOST, 10);
        Check.mean(house, 0, 0, -100000);
        Check.mean(house, 0, 1, 100000);
        Check.mean(house, 0, 2, 0);
        Check.due("the least", -130000, house.told(0, 0, 4));
        Check.due("the greatest", 130000, house.told(0, 1, 4));
        Check.due("less JOINED of both", -8, house.told(0, 2, 4));
    }

    private static void piecesFromTheFirstPointOn() {
        Check.sentence("from the first POINT on each PIECE has as many POINTS as there can be");
        NeedleHouse house = new NeedleHouse();
        Check.row(house, 0, 0, LOST, LOST, 0, LOST, 0);
        for (int time = 0; time < 5; time++) {
            Check.mean(house, 0, time, time == 3 ? 5000 : 9);
        }
        Check.due("one PIECE", 1, house.pieces(0));
        Check.due("from the first POINT, not the first MEASURE", 2, house.piece(0, 0, 0));
        Check.due("MEASURES without POINT are not in it", 2, house.piece(0, 0, 1));
        NeedleHouse two = points(0, 0, 1, 3, 5, 7, 9);
        Check.due("the first PIECE takes as many as it can", 2, two.piece(0, 0, 1));
        Check.due("the next has the rest", 4, two.piece(0, 1, 1));
        two = points(0, 0, 1, 2, 4, 6, 8);
        Check.due("a POINT of both goes to the first", 3, two.piece(0, 0, 1));
        Check.due("the next has the rest", 3, two.piece(0, 1, 0));
    }

    private static void pieceOfAsManyPointsAsCanBe() {
        Check.sentence("so that a straight line misses each by its END at most");
        for (int way = -1; way <= 1; way += 2) {
            NeedleHouse just = points(3, 0, 0, 12 * way);
            Check.due("each missed by 3", 1, just.pieces(0));
            slope("the one line", 6 * way, 1, just);
            Check.due("it misses the first by 3", -3 * way, just.baseline(0, 0));
            Check.due("it misses the second by 3", 3 * way, just.baseline(0, 1));
            Check.due("it misses the third by 3", 9 * way, just.baseline(0, 2));
            NeedleHouse more = points(3, 0, 0, 13 * way);
            Check.due("one by more", 2, more.pieces(0));
            Check.due("the third begins a PIECE", 2, more.piece(0, 1, 0));
            NeedleHouse last = points(3, 0, 0, 0, 0, 8 * way);
            Check.due("a fifth that just fits", 5, last.piece(0, 0, 1));
            slope("the one line", 2 * way, 1, last);
            Check.due("a fifth that doesn't", 4, points(3, 0, 0, 0, 0, 9 * way).piece(0, 0, 1));
        }
    }

    private static void pieceWithEnd0() {
        Check.sentence("misses each by its END at most (END 0)");
        Check.due("just on the line", 3, points(0, 10, 20, 30).piece(0, 0, 1));
        Check.due("above it by 1", 2, points(0, 10, 20, 31).piece(0, 0, 1));
        Check.due("below it by 1", 2, points(0, 10, 20, 29).piece(0, 0, 1));
        slope("through both", 10, 1, points(0, 10, 20, 30));
        Check.due("flat", 3, points(0, 5, 5, 5).piece(0, 0, 1));
        Check.due("flat, but for 1", 2, points(0, 5, 5, 6).piece(0, 0, 1));
    }

    private static void pieceWithTheGreatestEnd() {
        Check.sentence("misses each by its END at most (END 1,000)");
        Check.due("just so", 3, points(1000, 0, 0, 4000).piece(0, 0, 1));
        Check.due("by 1 more", 2, points(1000, 0, 0, 4001).piece(0, 0, 1));
        slope("just flat", 0, 1, points(1000, 0, 2000));
        slope("just not flat", 1, 1, points(1000, 0, 2001));
    }

    private static void pieceWithEndsOfTheirOwn() {
        Check.sentence("each by its END");
        for (int middle = -6; middle <= 6; middle++) {
            NeedleHouse house = zeros(3);
            house.end(0);
            Check.mean(house, 0, 0, 0);
            house.end(5);
            Check.mean(house, 0, 1, middle);
            house.end(0);
            Check.mean(house, 0, 2, 0);
            Check.due("END 5 in the middle, " + middle, Math.abs(middle) <= 5 ? 1 : 2, house.pieces(0));
        }
        NeedleHouse house = zeros(2);
        house.end(0);
        Check.mean(house, 0, 0, 0);
        house.end(1000);
        Check.mean(house, 0, 1, 1001);
        slope("only the second may be missed", 1, 1, house);
        Check.due("through the first", 0, house.baseline(0, 0));
    }

    private static void fewestAndMostPoints() {
        Check.sentence("PIECES of a TRACE (none, of one POINT, of 20, as many as there can be)");
        Check.due("none", 0, zeros(5).pieces(0));
        NeedleHouse one = points(0, 77);
        Check.due("one POINT", 1, one.pieces(0));
        Check.due("one POINT", 1, one.piece(0, 0, 1));
        slope("one POINT", 0, 1, one);
        int[] straight = new int[20];
        int[] crooked = new int[20];
        for (int i = 0; i < 20; i++) {
            straight[i] = 5 * i;
            crooked[i] = i * i;
        }
        NeedleHouse all = points(0, straight);
        Check.due("all 20 in one", 1, all.pieces(0));
        Check.due("all 20 in one", 20, all.piece(0, 0, 1));
        NeedleHouse pairs = points(0, crooked);
        Check.due("any two lie on a line: 10 PIECES", 10, pairs.pieces(0));
        for (int k = 0; k < 10; k++) {
            Check.due("PIECE " + k + " begins", 2 * k, pairs.piece(0, k, 0));
            Check.due("PIECE " + k + " has two", 2, pairs.piece(0, k, 1));
            Check.due("PIECE " + k + " rises", 4 * k + 1, pairs.piece(0, k, 2));
        }
        NeedleHouse odd = points(0, 0, 1, 4);
        Check.due("one POINT is left", 1, odd.piece(0, 1, 1));
        Check.due("its slope", 0, odd.piece(0, 1, 2));
        Check.due("its slope", 1, odd.piece(0, 1, 3));
    }

    private static void slopeNearestTo0() {
        Check.sentence("Its LINE: of all such lines the slope that is nearest to 0");
        for (int way = -1; way <= 1; way += 2) {
            slope("flat just fits", 0, 1, points(3, 0, 6 * way));
            slope("flat just doesn't", way, 1, points(3, 0, 7 * way));
            slope("well beyond", 14 * way, 1, points(3, 0, 20 * way));
            slope("one POINT in between holds it down", 6 * way, 1, points(3, 0, 0, 12 * way));
            NeedleHouse far = zeros(300);
            Check.mean(far, 0, 0, 0);
            Check.mean(far, 0, 299, 7 * way);
            slope("over all TIMES", way, 299, far);
        }
    }

    private static void lineInTheMiddle() {
        Check.sentence("of these the line in the middle");
        Check.due("one POINT: through it", 10, points(3, 10).baseline(0, 0));
        Check.due("7 to 13 and 9 to 15: 11", 11, points(3, 10, 12).baseline(0, 0));
        Check.due("3 to 9 and 9 to 15: 9", 9, points(3, 6, 12).baseline(0, 1));
        NeedleHouse wide = zeros(2);
        house(wide, 1000, 0, 0);
        house(wide, 2, 1, 100);
        Check.due("98 to 102, the other is wide", 100, wide.baseline(0, 0));
    }

    private static void house(NeedleHouse house, int end, int time, int point) {
        house.end(end);
        Check.mean(house, 0, time, point);
    }

    private static void baselineRoundedDown() {
        Check.sentence("BASELINE at a TIME: what the LINE has there, rounded down");
        Check.due("10.5", 10, points(3, 10, 11).baseline(0, 0));
        Check.due("-10.5", -11, points(3, -10, -11).baseline(0, 0));
        Check.due("-0.5", -1, points(3, 0, -1).baseline(0, 0));
        Check.due("-1", -1, points(3, 0, -2).baseline(0, 0));
        NeedleHouse thirds = zeros(4);
        house(thirds, 0, 0, -1);
        house(thirds, 0, 3, 0);
        int[] want = {-1, -1, -1, 0, 0, 0, 1};
        for (int time = 0; time < want.length; time++) {
            Check.due("a third each, at " + time, want[time], thirds.baseline(0, time));
        }
        NeedleHouse falling = zeros(4);
        house(falling, 0, 0, 1);
        house(falling, 0, 3, 0);
        int[] down = {1, 0, 0, 0, -1, -1, -1, -2};
        for (int time = 0; time < down.length; time++) {
            Check.due("a third down each, at " + time, down[time], falling.baseline(0, time));
        }
    }

    private static void baselineOfTheLastPieceNotBehind() {
        Check.sentence("of the last PIECE whose first POINT is not behind that TIME");
        NeedleHouse house = zeros(200);
        house(house, 0, 10, 0);
        house(house, 0, 20, 10);
        house(house, 0, 30, 500);
        house(house, 0, 40, 490);
        house(house, 0, 50, 9000);
        int[][] wants = {{10, 0}, {20, 10}, {29, 19}, {30, 500}, {31, 499}, {49, 481}, {50, 9000}, {299, 9000}};
        Check.due("PIECES", 3, house.pieces(0));
        for (int[] want : wants) {
            Check.due("at TIME " + want[0], want[1], house.baseline(0, want[0]));
        }
    }

    private static void baselineAheadOfAll() {
        Check.sentence("ahead of all: of the first PIECE");
        NeedleHouse house = zeros(200);
        house(house, 0, 100, 0);
        house(house, 0, 110, 20);
        house(house, 0, 120, 0);
        Check.due("just ahead", -2, house.baseline(0, 99));
        Check.due("at TIME 0", -200, house.baseline(0, 0));
    }

    private static void noBaselineWithoutPoints() {
        Check.sentence("none without POINTS");
        NeedleHouse house = new NeedleHouse();
        Check.due("nothing at all", LOST, house.baseline(0, 0));
        house.read(0, 0, 5);
        Check.due("readings alone", LOST, house.baseline(0, 0));
        Check.mean(house, 0, 1, 5);
        Check.due("a MEASURE without POINT", LOST, house.baseline(0, 0));
        Check.mean(house, 1, 0, 5);
        Check.due("a MEASURE of another TRACE", LOST, house.baseline(0, 0));
        house.read(0, 0, 6);
        Check.due("a POINT now", -1, house.baseline(0, 0));
        Check.due("of TRACE 0 alone", LOST, house.baseline(1, 0));
    }

    private static void finalOfBothTogether() {
        Check.sentence("FINAL at a TIME: JOINED and BASELINE together");
        NeedleHouse house = new NeedleHouse();
        Check.row(house, 0, 0, -30000, 30000, 30000);
        house.end(0);
        Check.mean(house, 0, 0, 100000);
        Check.mean(house, 0, 1, -100000);
        Check.due("at a POINT it is MEAN", 100000, house.value(0, 0));
        Check.due("at a POINT it is MEAN", -100000, house.value(0, 1));
        Check.due("beyond them", 30000 + 130000 - 2 * 260000, house.value(0, 2));
        house.lost(0, 0, 296);
        house.read(0, 0, 0);
        Check.due("at the last TIME", 130000 - 299 * 260000, house.value(0, 299));
        Check.due("BASELINE there", 130000 - 299 * 260000, house.baseline(0, 299));
    }

    private static void finalLostWithoutOne() {
        Check.sentence("LOST, if there is none of one");
        NeedleHouse house = new NeedleHouse();
        Check.row(house, 0, 0, 4, LOST, 6);
        Check.due("JOINED alone", LOST, house.value(0, 0));
        Check.mean(house, 0, 0, 104);
        Check.due("both", 104, house.value(0, 0));
        Check.due("BASELINE alone: LOST", LOST, house.value(0, 1));
        Check.due("both", 106, house.value(0, 2));
        Check.due("BASELINE alone: the row is too short", LOST, house.value(0, 3));
        Check.due("BASELINE is there", 100, house.baseline(0, 3));
    }

    private static void endTellsWhatItWas() {
        Check.sentence("Promise 8: The END of MEASURES from now on: what it was.");
        NeedleHouse house = new NeedleHouse();
        Check.due("at first", 3, house.end(0));
        Check.due("the least", 0, house.end(1000));
        Check.due("the greatest", 1000, house.end(1000));
        Check.due("told again", 1000, house.end(1));
        Check.mean(house, 0, 0, 0);
        Check.due("a MEASURE leaves it", 1, house.end(2));
    }

    private static void endNoneSuch() {
        Check.sentence("Promise 8: IllegalArgumentException: it is none such.");
        for (int wrong : new int[] {LEAST, LOST, -1, 1001, GREATEST}) {
            Twins.refusedArgument("end(" + wrong + ")", Pasts::none, house -> house.end(wrong));
            Twins.refusedArgument("end(" + wrong + ")", Pasts::rich, house -> house.end(wrong));
        }
    }

    private static void measureTellsItsNumber() {
        Check.sentence("Promise 9: A MEASURE: its number in the TRACE");
        NeedleHouse house = new NeedleHouse();
        Check.due("at TIME 0", 0, Check.mean(house, 1, 0, 4));
        Check.due("at TIME 1", 1, Check.mean(house, 1, 1, 4));
        Check.due("of another TRACE", 0, Check.mean(house, 0, 299, 4));
        Check.due("at TIME 299", 2, Check.mean(house, 1, 299, 4));
    }

    private static void measureWhenThereAre20() {
        Check.sentence("Promise 9: -1: there are 20");
        Twins.Past twenty = house -> {
            for (int i = 0; i < 20; i++) {
                Check.mean(house, 2, 3 * i, i);
            }
        };
        Twins.refused("behind them", -1, twenty, house -> Check.mean(house, 2, 299, 5));
        for (int trace = 0; trace < 3; trace++) {
            int t = trace;
            Twins.refused("all full", -1, Pasts::full, house -> Check.mean(house, t, 299, 5));
        }
        NeedleHouse house = new NeedleHouse();
        for (int i = 0; i < 19; i++) {
            Check.mean(house, 0, i, i);
        }
        Check.due("a 20th", 19, Check.mean(house, 0, 299, 5));
    }

    private static void measureAtOrAheadOfAnother() {
        Check.sentence("Promise 9: -2: a MEASURE is at that TIME, or behind it");
        Twins.Past at10 = house -> {
            Check.mean(house, 0, 3, 7);
            Check.mean(house, 0, 10, 8);
        };
        for (int time : new int[] {0, 2, 3, 4, 9, 10}) {
            Twins.refused("at " + time, -2, at10, house -> Check.mean(house, 0, time, 9));
        }
        NeedleHouse house = new NeedleHouse();
        at10.live(house);
        Check.due("at 11", 2, Check.mean(house, 0, 11, 9));
        Twins.refused("at the last TIME again", -2, one -> Check.mean(one, 0, 299, 8),
                one -> Check.mean(one, 0, 299, 8));
        Twins.refused("at TIME 0 again", -2, one -> Check.mean(one, 0, 0, 8), one -> Check.mean(one, 0, 0, 8));
    }

    private static void measureTheFirstOfThese() {
        Check.sentence("Promise 9: (the first of these)");
        for (int time : new int[] {0, 279, 280, 298, 299}) {
            Twins.refused("20, and one is not ahead of " + time, -1, Pasts::full,
                    house -> Check.mean(house, 1, time, 5));
        }
    }

    private static void measureWithAWrongPosition() {
        Check.sentence("Promise 9: IllegalArgumentException: a position");
        for (int place = 0; place < 4; place++) {
            for (int wrong : new int[] {LEAST, LOST, -100001, 100001, GREATEST}) {
                int[] p = {1, 2, 3, 4};
                p[place] = wrong;
                Twins.refusedArgument("position " + place + " " + wrong, Pasts::rich,
                        house -> house.measure(0, 100, p[0], p[1], p[2], p[3]));
            }
            for (int good : new int[] {-100000, 100000}) {
                int[] p = {0, 0, 0, 0};
                p[place] = good;
                NeedleHouse house = new NeedleHouse();
                Check.due("position " + place + " " + good, 0, house.measure(0, 0, p[0], p[1], p[2], p[3]));
                Check.due("its MEAN", good / 4, house.told(0, 0, 1));
                Check.due("its LEFT", 100000, house.told(0, 0, 2));
            }
        }
        Twins.refusedArgument("the first of all", Pasts::none, house -> house.measure(0, 0, 0, 0, 0, 100001));
    }

    private static void measureAtAWrongTime() {
        Check.sentence("Promise 9: IllegalArgumentException: .. or the TIME is not 0 to 299.");
        for (int wrong : new int[] {LEAST, LOST, -1, 300, 301, GREATEST}) {
            Twins.refusedArgument("at " + wrong, Pasts::none, house -> Check.mean(house, 0, wrong, 5));
            Twins.refusedArgument("at " + wrong, Pasts::rich, house -> Check.mean(house, 1, wrong, 5));
        }
    }

    private static void noSuchTrace(String what, OfTrace call) {
        for (int wrong : new int[] {LEAST, -1, 3, 4, GREATEST}) {
            Twins.refusedIndex(what + ", TRACE " + wrong, Pasts::rich, house -> call.of(house, wrong));
            Twins.refusedIndex(what + ", TRACE " + wrong + ", all full", Pasts::full,
                    house -> call.of(house, wrong));
        }
    }

    private static void measureOfNoSuchTrace() {
        Check.sentence("Promise 9: (so below): no such .. TRACE");
        noSuchTrace("measure", (house, trace) -> Check.mean(house, trace, 100, 5));
    }

    private static void toldOfAMeasure() {
        Check.sentence("Promise 10: Of a MEASURE: 0 TIME, 1 MEAN, 2 LEFT, 3 END, 4 its POINT");
        NeedleHouse house = new NeedleHouse();
        house.read(0, 2, 11);
        house.end(12);
        house.measure(2, 0, 100, 200, 301, 402);
        int[] want = {0, 250, 403, 12, 239};
        for (int what = 0; what < want.length; what++) {
            Check.due("what " + what, want[what], house.told(2, 0, what));
        }
        house.measure(2, 299, 1, 1, 1, 1);
        Check.due("the greatest TIME", 299, house.told(2, 1, 0));
        Check.due("the first stands", 0, house.told(2, 0, 0));
    }

    private static void toldWithoutAPoint() {
        Check.sentence("Promise 10: 4 its POINT; LOST without one");
        NeedleHouse house = new NeedleHouse();
        house.read(0, 0, 1);
        Check.mean(house, 0, 0, 1);
        Check.mean(house, 0, 1, 1);
        Check.due("a POINT of 0", 0, house.told(0, 0, 4));
        Check.due("no JOINED at 1", LOST, house.told(0, 1, 4));
        Check.due("its MEAN is there", 1, house.told(0, 1, 1));
    }

    private static void toldWithoutAMeasure() {
        Check.sentence("Promise 10: LOST .. (so without a MEASURE)");
        for (int what = 0; what <= 4; what++) {
            int w = what;
            for (int wrong : new int[] {LEAST, LOST, -1, 3, 19, 20, GREATEST}) {
                Twins.refused("MEASURE " + wrong, LOST, Pasts::rich, house -> house.told(0, wrong, w));
            }
            for (int wrong : new int[] {-1, 20, 21}) {
                Twins.refused("MEASURE " + wrong + " of 20", LOST, Pasts::full,
                        house -> house.told(0, wrong, w));
            }
            Twins.refused("no MEASURE at all", LOST, Pasts::none, house -> house.told(0, 0, w));
        }
        NeedleHouse full = new NeedleHouse();
        Pasts.full(full);
        Check.due("the last of 20", 299, full.told(0, 19, 0));
    }

    private static void toldAnotherWhat() {
        Check.sentence("Promise 10: IllegalArgumentException: another what.");
        for (int wrong : new int[] {LEAST, LOST, -1, 5, GREATEST}) {
            Twins.refusedArgument("what " + wrong, Pasts::rich, house -> house.told(0, 0, wrong));
            Twins.refusedArgument("what " + wrong, Pasts::full, house -> house.told(2, 19, wrong));
        }
    }

    private static void piecesTellHowMany() {
        Check.sentence("Promise 11: How many PIECES.");
        Check.due("none", 0, new NeedleHouse().pieces(2));
        NeedleHouse house = points(0, 0, 1, 4, 9, 16);
        Check.due("three", 3, house.pieces(0));
        Check.due("none of another TRACE", 0, house.pieces(1));
        Check.mean(house, 0, 299, 0);
        Check.due("a MEASURE without POINT counts for nothing", 3, house.pieces(0));
        Twins.refused("asked", 2, Pasts::rich, one -> one.pieces(0));
    }

    private static void pieceInLowestTerms() {
        Check.sentence("Promise 12: 2, 3 upper and lower number of its LINE's slope, in lowest terms (of 0: 0 and 1)");
        int[][] wants = {{12, 8, 2, 3}, {12, -8, -2, 3}, {12, 7, 7, 12}, {12, -7, -7, 12}, {12, 12, 1, 1},
            {12, -24, -2, 1}, {299, 1, 1, 299}, {299, -1, -1, 299}, {299, 299, 1, 1}, {298, 2, 1, 149}, {12, 0, 0, 1},
            {299, 0, 0, 1}, {1, 200000, 200000, 1}, {1, -200000, -200000, 1}};
        for (int[] want : wants) {
            NeedleHouse house = zeros(300);
            house(house, 0, 0, -want[1] / 2);
            house(house, 0, want[0], -want[1] / 2 + want[1]);
            Check.due("TIME of its first POINT", 0, house.piece(0, 0, 0));
            Check.due("its POINTS", 2, house.piece(0, 0, 1));
            slope(want[1] + " by " + want[0], want[2], want[3], house);
        }
        NeedleHouse steepest = new NeedleHouse();
        Check.row(steepest, 0, 0, 30000, -30000);
        house(steepest, 0, 0, -100000);
        house(steepest, 0, 1, 100000);
        slope("the steepest", 260000, 1, steepest);
        NeedleHouse one = zeros(300);
        house(one, 0, 299, 5);
        Check.due("the last TIME", 299, one.piece(0, 0, 0));
        slope("one POINT", 0, 1, one);
    }

    private static void pieceWithoutOne() {
        Check.sentence("Promise 12: LOST without one");
        for (int what = 0; what <= 3; what++) {
            int w = what;
            for (int wrong : new int[] {LEAST, LOST, -1, 2, 10, 19, 20, GREATEST}) {
                Twins.refused("PIECE " + wrong, LOST, Pasts::rich, house -> house.piece(0, wrong, w));
            }
            Twins.refused("no PIECE at all", LOST, Pasts::none, house -> house.piece(0, 0, w));
        }
        NeedleHouse rich = new NeedleHouse();
        Pasts.rich(rich);
        Check.due("the last one is there", 9, rich.piece(0, 1, 0));
        NeedleHouse fewer = points(0, 0, 1, 4, 9, 16);
        Check.due("three PIECES", 4, fewer.piece(0, 2, 0));
        fewer.shift(0, 0, 2, 2);
        fewer.shift(0, 0, 3, 4);
        fewer.shift(0, 0, 4, 6);
        Check.due("one PIECE now", 1, fewer.pieces(0));
        Check.due("one PIECE now", LOST, fewer.piece(0, 1, 0));
    }

    private static void pieceAnotherWhat() {
        Check.sentence("Promise 12: IllegalArgumentException: another what.");
        for (int wrong : new int[] {LEAST, LOST, -1, 4, GREATEST}) {
            Twins.refusedArgument("what " + wrong, Pasts::rich, house -> house.piece(0, 0, wrong));
            Twins.refusedArgument("what " + wrong, Pasts::full, house -> house.piece(2, 0, wrong));
        }
    }

    private static void baselineAtTimes0To299() {
        Check.sentence("Promise 13: BASELINE; LOST without, and at a TIME that is not 0 to 299.");
        NeedleHouse house = points(0, 5, 6);
        Check.due("at TIME 0", 5, house.baseline(0, 0));
        Check.due("at TIME 299, where no reading is", 304, house.baseline(0, 299));
        Check.due("without", LOST, house.baseline(1, 0));
        for (int wrong : new int[] {LEAST, LOST, -1, 300, 301, GREATEST}) {
            Check.due("at TIME " + wrong, LOST, house.baseline(0, wrong));
            Twins.refused("at TIME " + wrong, LOST, Pasts::rich, one -> one.baseline(0, wrong));
        }
    }

    private static void valueOrLost() {
        Check.sentence("Promise 14: FINAL; LOST.");
        NeedleHouse house = new NeedleHouse();
        house.read(0, 2, 10);
        house.lost(0, 2, 298);
        house.read(0, 2, 20);
        Check.mean(house, 2, 0, 110);
        Check.due("at TIME 0", 110, house.value(2, 0));
        Check.due("at a LOST one", LOST, house.value(2, 298));
        Check.due("at TIME 299", 120, house.value(2, 299));
        for (int wrong : new int[] {LEAST, LOST, -1, 300, 301, GREATEST}) {
            Check.due("at TIME " + wrong, LOST, house.value(2, wrong));
            Twins.refused("at TIME " + wrong, LOST, Pasts::rich, one -> one.value(0, wrong));
        }
    }

    private static void noSuchTraces() {
        Check.sentence("Promises 10 to 14: (so below): no such .. TRACE");
        noSuchTrace("told", (house, trace) -> house.told(trace, 0, 0));
        noSuchTrace("pieces", (house, trace) -> house.pieces(trace));
        noSuchTrace("piece", (house, trace) -> house.piece(trace, 0, 0));
        noSuchTrace("baseline", (house, trace) -> house.baseline(trace, 0));
        noSuchTrace("value", (house, trace) -> house.value(trace, 0));
    }
}
