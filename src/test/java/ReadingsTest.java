/** Promises 1 to 7: a new object, read, lost, at, shift, jump, joined. */
public final class ReadingsTest {
    private static final int LOST = Check.LOST;

    public static void main(String[] args) {
        newObject();
        read();
        lost();
        at();
        shift();
        shiftAtTheBounds();
        jump();
        jumpWithReadingsMissing();
        joined();
        joinedByTheOneAhead();
        wrongSetsAndTraces();
        Check.finish();
    }

    private static void newObject() {
        NeedleHouse house = new NeedleHouse();
        for (int what = 0; what <= 5; what++) {
            Check.due("count(" + what + ") of a new object", 0, house.count(what));
        }
        for (int trace = 0; trace < 3; trace++) {
            Check.due("at of a new object", LOST, house.at(0, trace, 0));
            Check.due("joined of a new object", LOST, house.joined(trace, 0));
            Check.due("told of a new object", LOST, house.told(trace, 0, 0));
            Check.due("pieces of a new object", 0, house.pieces(trace));
            Check.due("value of a new object", LOST, house.value(trace, 0));
            Check.due("published of a new object", LOST, house.published(trace, 0));
            Check.due("changed of a new object", -1, house.changed(trace, 0));
            Check.due("range of a new object", -1, house.range(trace, 0));
        }
        Check.due("fault of a new object", -1, house.fault());
        Check.due("index of a new object", -1, house.index(0));
        Check.due("storm of a new object", -1, house.storm(0, 0));
        Check.due("quiet of a new object", -1, house.quiet(0));
        Check.due("the first END", 3, house.end(7));
    }

    private static void read() {
        NeedleHouse house = new NeedleHouse();
        Check.due("read", 1, house.read(0, 0, -30000));
        Check.due("read", 2, house.read(0, 0, 30000));
        Check.due("read of the other SET", 1, house.read(1, 0, 1));
        Check.due("read of another TRACE", 1, house.read(0, 2, 2));
        Check.due("least reading", -30000, house.at(0, 0, 0));
        Check.due("greatest reading", 30000, house.at(0, 0, 1));
        Check.dueArgument("read(30001)", () -> house.read(0, 0, 30001));
        Check.dueArgument("read(-30001)", () -> house.read(0, 0, -30001));
        Check.dueArgument("read(LOST)", () -> house.read(0, 0, LOST));
        Check.due("read behind wrong ones", 3, house.read(0, 0, 3));
        for (int i = 3; i < 299; i++) {
            house.read(0, 0, i);
        }
        Check.due("read of the last", 300, house.read(0, 0, 300));
        Check.due("read beyond", -1, house.read(0, 0, 5));
        Check.due("the last reading", 300, house.at(0, 0, 299));
        Check.dueArgument("a wrong value in a full row", () -> house.read(0, 0, 30001));
        Check.due("TIMES", 300, house.count(0));
    }

    private static void lost() {
        NeedleHouse house = new NeedleHouse();
        Check.dueArgument("lost(0)", () -> house.lost(1, 2, 0));
        Check.dueArgument("lost(-1)", () -> house.lost(1, 2, -1));
        Check.dueArgument("lost(301)", () -> house.lost(1, 2, 301));
        Check.due("lost", 299, house.lost(1, 2, 299));
        Check.due("lost too many", -1, house.lost(1, 2, 2));
        Check.due("read behind lost ones", 300, house.read(1, 2, 9));
        Check.due("lost in a full row", -1, house.lost(1, 2, 1));
        Check.due("at a lost one", LOST, house.at(1, 2, 298));
        Check.due("at behind lost ones", 9, house.at(1, 2, 299));
        Check.due("all lost", 300, house.lost(0, 0, 300));
    }

    private static void at() {
        NeedleHouse house = new NeedleHouse();
        Check.row(house, 0, 1, 7, LOST, 8);
        Check.due("at 0", 7, house.at(0, 1, 0));
        Check.due("at 1", LOST, house.at(0, 1, 1));
        Check.due("at 2", 8, house.at(0, 1, 2));
        Check.due("at the end", LOST, house.at(0, 1, 3));
        Check.due("at -1", LOST, house.at(0, 1, -1));
        Check.due("at 300", LOST, house.at(0, 1, 300));
        Check.due("at the greatest", LOST, house.at(0, 1, Integer.MAX_VALUE));
        Check.due("at the least", LOST, house.at(0, 1, Integer.MIN_VALUE));
        Check.due("at the other SET", LOST, house.at(1, 1, 0));
    }

    private static void shift() {
        NeedleHouse house = new NeedleHouse();
        Check.row(house, 0, 0, 10, LOST, 20, 30);
        Check.due("shift", 2, house.shift(0, 0, 1, 5));
        Check.due("ahead of the shift", 10, house.at(0, 0, 0));
        Check.due("a lost one stays", LOST, house.at(0, 0, 1));
        Check.due("shifted", 25, house.at(0, 0, 2));
        Check.due("shifted", 35, house.at(0, 0, 3));
        house.read(0, 0, 40);
        Check.due("what comes later is not shifted", 40, house.at(0, 0, 4));
        Check.due("shift behind the row", 0, house.shift(0, 0, 5, 5));
        Check.due("shift far behind the row", 0, house.shift(0, 0, Integer.MAX_VALUE, 5));
        Check.due("shift of an empty row", 0, house.shift(1, 0, 0, 60000));
        Check.due("shift from 0", 4, house.shift(0, 0, 0, -5));
        Check.due("shifted down", 5, house.at(0, 0, 0));
        Check.due("JOINED follows a shift", 5, house.joined(0, 0));
    }

    private static void shiftAtTheBounds() {
        NeedleHouse house = new NeedleHouse();
        Check.row(house, 0, 0, -30000, LOST, 29999);
        Check.due("shift to the bound", 2, house.shift(0, 0, 0, 1));
        Check.due("shift beyond", -1, house.shift(0, 0, 0, 1));
        Check.due("nothing changes", -29999, house.at(0, 0, 0));
        Check.due("nothing changes", 30000, house.at(0, 0, 2));
        Check.due("shift beyond, below", -1, house.shift(0, 0, 0, -2));
        Check.due("nothing changes", 30000, house.at(0, 0, 2));
        Check.due("the greatest shift down", 1, house.shift(0, 0, 1, -60000));
        Check.due("the least reading", -30000, house.at(0, 0, 2));
        Check.due("the greatest shift up", 1, house.shift(0, 0, 1, 60000));
        Check.dueArgument("shift from -1", () -> house.shift(0, 0, -1, 0));
        Check.dueArgument("shift by 60001", () -> house.shift(0, 0, 0, 60001));
        Check.dueArgument("shift by -60001", () -> house.shift(0, 0, 0, -60001));
        Check.dueArgument("a wrong shift of an empty row", () -> house.shift(1, 1, 0, Integer.MIN_VALUE));
    }

    private static void jump() {
        NeedleHouse house = new NeedleHouse();
        Check.row(house, 0, 0, 0, 51, 0, 50, 101, 200);
        Check.row(house, 1, 0, 0, 50, 0, 51, 50, 101);
        Check.due("leap of SET 0 alone", 1, house.jump(0, 0, 0));
        Check.due("leap of SET 0 alone, down", 2, house.jump(0, 0, 1));
        Check.due("a third leap", 4, house.jump(0, 0, 2));
        Check.due("both leap at 5", -1, house.jump(0, 0, 3));
        Check.due("leap of SET 1 alone", 3, house.jump(1, 0, 0));
        Check.due("no more", -1, house.jump(1, 0, 1));
        Check.due("jump(-1)", -1, house.jump(0, 0, -1));
        Check.rule(house, "limit 51;");
        Check.due("another limit: both leap at 5, but for SET 0 alone", -1, house.jump(1, 0, 0));
        Check.due("another limit", 5, house.jump(0, 0, 0));
    }

    private static void jumpWithReadingsMissing() {
        NeedleHouse house = new NeedleHouse();
        Check.row(house, 0, 2, 0, 900, 0, LOST, 900, 0, 900);
        Check.row(house, 1, 2, 0, LOST, 0, 0, 0, 0);
        Check.due("SET 1 misses 1, SET 0 misses 3, SET 1 has no 6", 5, house.jump(0, 2, 0));
        Check.due("no more", -1, house.jump(0, 2, 1));
        Check.due("none of SET 1", -1, house.jump(1, 2, 0));
    }

    private static void joined() {
        NeedleHouse house = new NeedleHouse();
        Check.row(house, 0, 1, 10, 10, -10, LOST, 4, LOST);
        Check.row(house, 1, 1, 15, 16, -13, 8, LOST, LOST, 3);
        Check.due("differ by NEAR", 12, house.joined(1, 0));
        Check.due("differ by more, SET 0 nearer", 10, house.joined(1, 1));
        Check.due("rounded down below 0", -12, house.joined(1, 2));
        Check.due("only SET 1", 8, house.joined(1, 3));
        Check.due("only SET 0", 4, house.joined(1, 4));
        Check.due("none", LOST, house.joined(1, 5));
        Check.due("beyond the row of SET 0", 3, house.joined(1, 6));
        Check.due("beyond both", LOST, house.joined(1, 7));
        Check.due("joined(-1)", LOST, house.joined(1, -1));
        Check.due("joined(300)", LOST, house.joined(1, 300));
        Check.due("the greatest TIME", LOST, house.joined(1, Integer.MAX_VALUE));
        Check.rule(house, "near 6;");
        Check.due("another near", 13, house.joined(1, 1));
        Check.rule(house, "near 0;");
        Check.due("near 0, none ahead", 10, house.joined(1, 0));
    }

    private static void joinedByTheOneAhead() {
        NeedleHouse house = new NeedleHouse();
        Check.row(house, 0, 0, 100, 100, 90, LOST, 70, 0, 0);
        Check.row(house, 1, 0, 200, 111, 110, LOST, 10, 80, 160);
        Check.due("none ahead of 0: SET 0", 100, house.joined(0, 0));
        Check.due("SET 0 is nearer", 100, house.joined(0, 1));
        Check.due("both as near: SET 0", 90, house.joined(0, 2));
        Check.due("both lost", LOST, house.joined(0, 3));
        Check.due("LOST ahead: SET 0", 70, house.joined(0, 4));
        Check.due("SET 1 is nearer", 80, house.joined(0, 5));
        Check.due("as near to JOINED ahead: SET 0", 0, house.joined(0, 6));
    }

    private static void wrongSetsAndTraces() {
        NeedleHouse house = new NeedleHouse();
        for (int wrong : new int[] {-1, 3, Integer.MAX_VALUE, Integer.MIN_VALUE}) {
            Check.dueIndex("read, TRACE " + wrong, () -> house.read(0, wrong, 30001));
            Check.dueIndex("lost, TRACE " + wrong, () -> house.lost(0, wrong, 0));
            Check.dueIndex("at, TRACE " + wrong, () -> house.at(0, wrong, 0));
            Check.dueIndex("shift, TRACE " + wrong, () -> house.shift(0, wrong, -1, 0));
            Check.dueIndex("jump, TRACE " + wrong, () -> house.jump(0, wrong, 0));
            Check.dueIndex("joined, TRACE " + wrong, () -> house.joined(wrong, 0));
        }
        for (int wrong : new int[] {-1, 2, Integer.MAX_VALUE, Integer.MIN_VALUE}) {
            Check.dueIndex("read, SET " + wrong, () -> house.read(wrong, 0, 30001));
            Check.dueIndex("lost, SET " + wrong, () -> house.lost(wrong, 0, 0));
            Check.dueIndex("at, SET " + wrong, () -> house.at(wrong, 0, 0));
            Check.dueIndex("shift, SET " + wrong, () -> house.shift(wrong, 0, -1, 0));
            Check.dueIndex("jump, SET " + wrong, () -> house.jump(wrong, 0, 0));
        }
        Check.due("nothing was read", 0, house.count(0));
    }
}
