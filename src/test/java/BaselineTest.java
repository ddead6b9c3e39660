/** Promises 8 to 14: end, measure, told, pieces, piece, baseline, value. */
public final class BaselineTest {
    private static final int LOST = Check.LOST;

    public static void main(String[] args) {
        end();
        measure();
        measureFull();
        told();
        pointFollowsJoined();
        noPoints();
        flatPieces();
        slopes();
        slopeJustBeside0();
        slopeInLowestTerms();
        middleOfTheLines();
        pieceAfterPiece();
        value();
        wrongTraces();
        Check.finish();
    }

    private static void end() {
        NeedleHouse house = new NeedleHouse();
        Check.due("the first END", 3, house.end(1000));
        Check.due("END as told", 1000, house.end(0));
        Check.dueArgument("end(-1)", () -> house.end(-1));
        Check.dueArgument("end(1001)", () -> house.end(1001));
        Check.due("END stays", 0, house.end(5));
        Check.mean(house, 0, 1, 0);
        house.end(6);
        Check.mean(house, 0, 2, 0);
        Check.due("END of the first MEASURE", 5, house.told(0, 0, 3));
        Check.due("END of the second MEASURE", 6, house.told(0, 1, 3));
    }

    private static void measure() {
        NeedleHouse house = new NeedleHouse();
        Check.due("measure", 0, house.measure(1, 10, 100000, -100000, 100000, -100000));
        Check.due("at that TIME", -2, Check.mean(house, 1, 10, 0));
        Check.due("a MEASURE is behind", -2, Check.mean(house, 1, 9, 0));
        Check.due("behind it", 1, Check.mean(house, 1, 11, 0));
        Check.due("of another TRACE", 0, Check.mean(house, 2, 0, 0));
        Check.due("the last TIME", 2, Check.mean(house, 1, 299, 0));
        Check.dueArgument("TIME -1", () -> Check.mean(house, 0, -1, 0));
        Check.dueArgument("TIME 300", () -> Check.mean(house, 0, 300, 0));
        Check.dueArgument("a", () -> house.measure(0, 0, 100001, 0, 0, 0));
        Check.dueArgument("b", () -> house.measure(0, 0, 0, -100001, 0, 0));
        Check.dueArgument("c", () -> house.measure(0, 0, 0, 0, 100001, 0));
        Check.dueArgument("d", () -> house.measure(0, 0, 0, 0, 0, -100001));
        Check.due("no MEASURE came of these", LOST, house.told(0, 0, 0));
    }

    private static void measureFull() {
        NeedleHouse house = new NeedleHouse();
        for (int i = 0; i < 20; i++) {
            Check.due("MEASURE " + i, i, Check.mean(house, 0, 2 * i, i));
        }
        Check.due("a 21st MEASURE", -1, Check.mean(house, 0, 100, 0));
        Check.due("a 21st MEASURE, -1 ahead of -2", -1, Check.mean(house, 0, 0, 0));
        Check.dueArgument("a wrong 21st MEASURE", () -> Check.mean(house, 0, 300, 0));
        Check.due("the 20th", 19, house.told(0, 19, 1));
        Check.due("no 21st", LOST, house.told(0, 20, 1));
    }

    private static void told() {
        NeedleHouse house = new NeedleHouse();
        Check.row(house, 0, 0, 1, 2, 3);
        house.measure(0, 2, -1, -2, -3, -4);
        Check.due("TIME", 2, house.told(0, 0, 0));
        Check.due("MEAN, rounded down", -3, house.told(0, 0, 1));
        Check.due("LEFT", 4, house.told(0, 0, 2));
        Check.due("END", 3, house.told(0, 0, 3));
        Check.due("POINT", -6, house.told(0, 0, 4));
        house.measure(0, 3, 0, 0, 100000, 100000);
        Check.due("LEFT is never below 0", 200000, house.told(0, 1, 2));
        Check.due("no JOINED there, no POINT", LOST, house.told(0, 1, 4));
        for (int what = 0; what <= 4; what++) {
            Check.due("no such MEASURE", LOST, house.told(0, 2, what));
            Check.due("no such MEASURE", LOST, house.told(0, -1, what));
            Check.due("no such MEASURE", LOST, house.told(0, Integer.MAX_VALUE, what));
        }
        Check.dueArgument("told what -1", () -> house.told(0, 0, -1));
        Check.dueArgument("told what 5", () -> house.told(0, 0, 5));
        Check.dueArgument("told what 5 without a MEASURE", () -> house.told(1, 0, 5));
    }

    private static void pointFollowsJoined() {
        NeedleHouse house = new NeedleHouse();
        Check.mean(house, 0, 1, 100);
        Check.due("no reading yet", LOST, house.told(0, 0, 4));
        Check.due("no PIECE yet", 0, house.pieces(0));
        Check.row(house, 0, 0, 0, 10);
        Check.due("POINT", 90, house.told(0, 0, 4));
        Check.row(house, 1, 0, 0, 14);
        Check.due("both joined", 88, house.told(0, 0, 4));
        Check.rule(house, "near 3;");
        Check.due("another near", 90, house.told(0, 0, 4));
        house.shift(0, 0, 1, 4);
        Check.due("a shift", 86, house.told(0, 0, 4));
        Check.due("BASELINE follows", 86, house.baseline(0, 0));
    }

    private static void noPoints() {
        NeedleHouse house = new NeedleHouse();
        Check.mean(house, 0, 5, 100);
        house.read(0, 0, 1);
        Check.due("no PIECES", 0, house.pieces(0));
        Check.due("no PIECE", LOST, house.piece(0, 0, 0));
        Check.due("no BASELINE", LOST, house.baseline(0, 0));
        Check.due("no FINAL", LOST, house.value(0, 0));
    }

    private static NeedleHouse zeros(int many) {
        NeedleHouse house = new NeedleHouse();
        for (int i = 0; i < many; i++) {
            house.read(0, 0, 0);
        }
        return house;
    }

    private static void flatPieces() {
        NeedleHouse house = zeros(10);
        Check.mean(house, 0, 1, 10);
        Check.due("one POINT", 1, house.pieces(0));
        Check.due("its TIME", 1, house.piece(0, 0, 0));
        Check.due("how many POINTS", 1, house.piece(0, 0, 1));
        Check.due("slope 0", 0, house.piece(0, 0, 2));
        Check.due("slope 0 by 1", 1, house.piece(0, 0, 3));
        Check.due("BASELINE ahead of all", 10, house.baseline(0, 0));
        Check.mean(house, 0, 3, 16);
        Check.due("missed by END just so", 2, house.piece(0, 0, 1));
        Check.due("still flat", 0, house.piece(0, 0, 2));
        Check.due("the one line", 13, house.baseline(0, 200));
        Check.due("no second PIECE", LOST, house.piece(0, 1, 0));
        Check.due("no PIECE -1", LOST, house.piece(0, -1, 0));
        Check.dueArgument("piece what 4", () -> house.piece(0, 0, 4));
        Check.dueArgument("piece what -1", () -> house.piece(0, 0, -1));
        Check.dueArgument("piece what 4 without a PIECE", () -> house.piece(1, 0, 4));
    }

    private static void slopes() {
        NeedleHouse house = zeros(10);
        house.end(1);
        Check.mean(house, 0, 0, 0);
        Check.mean(house, 0, 4, 9);
        Check.due("rising: upper", 7, house.piece(0, 0, 2));
        Check.due("rising: lower", 4, house.piece(0, 0, 3));
        int[] rising = {1, 2, 4, 6, 8, 9};
        for (int time = 0; time < rising.length; time++) {
            Check.due("rising at " + time, rising[time], house.baseline(0, time));
        }
        house = zeros(10);
        house.end(1);
        Check.mean(house, 0, 0, 0);
        Check.mean(house, 0, 4, -9);
        Check.due("falling: upper", -7, house.piece(0, 0, 2));
        Check.due("falling: lower", 4, house.piece(0, 0, 3));
        int[] falling = {-1, -3, -5, -7, -8, -10};
        for (int time = 0; time < falling.length; time++) {
            Check.due("falling at " + time, falling[time], house.baseline(0, time));
        }
        Check.due("at the last TIME", Math.floorDiv(-4 - 7 * 299, 4), house.baseline(0, 299));
        Check.due("at TIME 300", LOST, house.baseline(0, 300));
        Check.due("at TIME -1", LOST, house.baseline(0, -1));
        Check.due("at the least TIME", LOST, house.baseline(0, Integer.MIN_VALUE));
    }

    private static void slopeJustBeside0() {
        for (int way = -1; way <= 1; way += 2) {
            NeedleHouse house = zeros(40);
            house.end(1);
            Check.mean(house, 0, 0, 0);
            Check.mean(house, 0, 29, 3 * way);
            Check.due("1 by 29: upper", way, house.piece(0, 0, 2));
            Check.due("1 by 29: lower", 29, house.piece(0, 0, 3));
            Check.mean(house, 0, 30, 50);
            Check.due("one POINT alone behind it", 2, house.pieces(0));
            Check.due("its slope: upper", 0, house.piece(0, 1, 2));
            Check.due("its slope: lower", 1, house.piece(0, 1, 3));
            Check.due("its height", 50, house.baseline(0, 39));
        }
    }

    private static void slopeInLowestTerms() {
        NeedleHouse house = zeros(20);
        house.end(0);
        Check.mean(house, 0, 3, 10);
        Check.mean(house, 0, 15, 18);
        Check.due("8 by 12: upper", 2, house.piece(0, 0, 2));
        Check.due("8 by 12: lower", 3, house.piece(0, 0, 3));
        Check.due("ahead of the first POINT", 8, house.baseline(0, 0));
        Check.due("rounded down", 8, house.baseline(0, 1));
        Check.due("rounded down", 9, house.baseline(0, 2));
        house = zeros(20);
        house.end(0);
        Check.mean(house, 0, 0, -100000);
        Check.mean(house, 0, 1, 100000);
        Check.due("the steepest: upper", 200000, house.piece(0, 0, 2));
        Check.due("the steepest: lower", 1, house.piece(0, 0, 3));
        Check.due("the steepest, far off", 299 * 200000 - 100000, house.baseline(0, 299));
    }

    private static void middleOfTheLines() {
        NeedleHouse house = zeros(20);
        house.end(4);
        Check.mean(house, 0, 0, 10);
        house.end(1);
        Check.mean(house, 0, 5, 12);
        Check.due("flat", 0, house.piece(0, 0, 2));
        Check.due("middle of 11 to 13", 12, house.baseline(0, 0));
        house.end(2);
        Check.mean(house, 0, 6, 14);
        Check.due("middle of 12 to 13, rounded down", 12, house.baseline(0, 3));
        house.end(0);
        Check.mean(house, 0, 10, 16);
        Check.due("the least slope: upper", 3, house.piece(0, 0, 2));
        Check.due("the least slope: lower", 5, house.piece(0, 0, 3));
        Check.due("through 13 at 5", 13, house.baseline(0, 5));
        Check.due("all four", 4, house.piece(0, 0, 1));
    }

    private static void pieceAfterPiece() {
        NeedleHouse house = zeros(60);
        house.end(1);
        Check.mean(house, 0, 10, 0);
        Check.mean(house, 0, 20, 100);
        Check.mean(house, 0, 30, 50);
        Check.mean(house, 0, 40, 0);
        Check.mean(house, 0, 50, 77);
        Check.due("PIECES", 3, house.pieces(0));
        int[][] want = {{10, 2, 49, 5}, {30, 2, -24, 5}, {50, 1, 0, 1}};
        for (int k = 0; k < want.length; k++) {
            for (int what = 0; what < 4; what++) {
                Check.due("PIECE " + k + ", " + what, want[k][what], house.piece(0, k, what));
            }
        }
        Check.due("ahead of all: of the first", -97, house.baseline(0, 0));
        Check.due("of the first up to the next PIECE", 99 + 88, house.baseline(0, 29));
        Check.due("of the second from its first POINT on", 49, house.baseline(0, 30));
        Check.due("of the last", 77, house.baseline(0, 50));
        Check.due("of the last", 77, house.baseline(0, 299));
        house.shift(0, 0, 20, 100);
        Check.due("a shift moves POINTS", 0, house.told(0, 1, 4));
        Check.due("PIECES laid anew", 10, house.piece(0, 0, 0));
        Check.due("a flat PIECE", 2, house.piece(0, 0, 1));
        Check.due("slope 0", 0, house.piece(0, 0, 2));
    }

    private static void value() {
        NeedleHouse house = new NeedleHouse();
        Check.row(house, 0, 1, 5, LOST, 7);
        Check.due("no BASELINE", LOST, house.value(1, 0));
        Check.mean(house, 1, 0, 105);
        Check.due("FINAL", 105, house.value(1, 0));
        Check.due("LOST", LOST, house.value(1, 1));
        Check.due("FINAL", 107, house.value(1, 2));
        Check.due("no reading", LOST, house.value(1, 3));
        Check.due("value(-1)", LOST, house.value(1, -1));
        Check.due("value(300)", LOST, house.value(1, 300));
        house.read(0, 1, 9);
        Check.due("a new reading", 109, house.value(1, 3));
        house.lost(1, 1, 2);
        house.read(1, 1, 10);
        Check.due("a new reading of the other SET", 108, house.value(1, 2));
    }

    private static void wrongTraces() {
        NeedleHouse house = new NeedleHouse();
        for (int wrong : new int[] {-1, 3, Integer.MAX_VALUE, Integer.MIN_VALUE}) {
            Check.dueIndex("measure", () -> house.measure(wrong, -1, 0, 0, 0, 0));
            Check.dueIndex("told", () -> house.told(wrong, 0, 9));
            Check.dueIndex("pieces", () -> house.pieces(wrong));
            Check.dueIndex("piece", () -> house.piece(wrong, 0, 9));
            Check.dueIndex("baseline", () -> house.baseline(wrong, -1));
            Check.dueIndex("value", () -> house.value(wrong, -1));
        }
    }
}
