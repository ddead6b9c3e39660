/** Promises 23 to 26: publish, changed, published, count. */
public final class PublishTest {
    private static final int LOST = Check.LOST;

    public static void main(String[] args) {
        nothingPublished();
        publish();
        changed();
        publishedAgain();
        publishedNothing();
        count();
        wrongTraces();
        Check.finish();
    }

    private static NeedleHouse house() {
        NeedleHouse house = new NeedleHouse();
        Check.row(house, 0, 0, 1, 2, LOST, 4);
        Check.row(house, 1, 2, LOST, 20, 30);
        Check.row(house, 0, 1, 5, 6);
        Check.mean(house, 0, 0, 101);
        Check.mean(house, 2, 1, 520);
        return house;
    }

    private static void nothingPublished() {
        NeedleHouse house = house();
        Check.due("published", LOST, house.published(0, 0));
        Check.due("changed", -1, house.changed(0, 0));
        Check.due("how often", 0, house.count(5));
    }

    private static void publish() {
        NeedleHouse house = house();
        Check.due("values of TRACES 0 and 2", 5, house.publish());
        Check.due("published", 101, house.published(0, 0));
        Check.due("published LOST", LOST, house.published(0, 2));
        Check.due("published", 104, house.published(0, 3));
        Check.due("published, TRACE 2", 520, house.published(2, 1));
        Check.due("published without BASELINE", LOST, house.published(1, 0));
        Check.due("published(-1)", LOST, house.published(0, -1));
        Check.due("published(300)", LOST, house.published(0, 300));
        Check.due("published of the greatest", LOST, house.published(0, Integer.MAX_VALUE));
        house.shift(0, 0, 0, 7);
        Check.due("what was published stays", 104, house.published(0, 3));
    }

    private static void changed() {
        NeedleHouse house = house();
        house.publish();
        for (int trace = 0; trace < 3; trace++) {
            Check.due("nothing has changed", -1, house.changed(trace, 0));
        }
        house.shift(0, 0, 1, 7);
        Check.due("the first", 1, house.changed(0, 0));
        Check.due("the second, LOST still at 2", 3, house.changed(0, 1));
        Check.due("no third", -1, house.changed(0, 2));
        Check.due("changed(-1)", -1, house.changed(0, -1));
        Check.due("of TRACE 2", -1, house.changed(2, 0));
        house.shift(0, 0, 1, -7);
        Check.due("as it was again", -1, house.changed(0, 0));
        house.lost(1, 0, 2);
        house.read(1, 0, 3);
        Check.due("no more LOST", 2, house.changed(0, 0));
        Check.mean(house, 1, 1, 0);
        Check.due("a BASELINE now", 0, house.changed(1, 0));
        Check.due("a BASELINE now", 1, house.changed(1, 1));
        house.lost(0, 1, 297);
        house.read(0, 1, 1);
        Check.due("a new reading at the last TIME", 299, house.changed(1, 2));
        Check.due("at the other TIMES LOST still", -1, house.changed(1, 3));
    }

    private static void publishedAgain() {
        NeedleHouse house = house();
        house.publish();
        house.shift(0, 0, 3, 7);
        Check.due("again", 5, house.publish());
        Check.due("nothing has changed since", -1, house.changed(0, 0));
        Check.due("the latest", 111, house.published(0, 3));
        Check.due("how often", 2, house.count(5));
    }

    private static void publishedNothing() {
        NeedleHouse house = new NeedleHouse();
        Check.due("all LOST", 0, house.publish());
        Check.due("how often", 1, house.count(5));
        house.read(0, 0, 1);
        Check.due("LOST still", -1, house.changed(0, 0));
        Check.mean(house, 0, 0, 1);
        Check.due("was LOST then", 0, house.changed(0, 0));
    }

    private static void count() {
        NeedleHouse house = house();
        Check.due("TIMES", 4, house.count(0));
        Check.due("WINDOWS", 0, house.count(1));
        house.lost(1, 1, 29);
        Check.due("TIMES of a lost row", 29, house.count(0));
        Check.due("WINDOWS that are whole", 2, house.count(1));
        house.train(0, 1);
        Check.due("TRAINS", 1, house.count(2));
        Check.rule(house, "near 1;near 2;");
        Check.due("CLAUSES, those of one kind too", 2, house.count(3));
        house.feed(0, 0, 0, 0, 0);
        Check.due("bytes of the TAPE", 20, house.count(4));
        for (int what : new int[] {-1, 6, Integer.MAX_VALUE, Integer.MIN_VALUE}) {
            Check.due("count(" + what + ")", -1, house.count(what));
        }
    }

    private static void wrongTraces() {
        NeedleHouse house = new NeedleHouse();
        for (int wrong : new int[] {-1, 3, Integer.MAX_VALUE, Integer.MIN_VALUE}) {
            Check.dueIndex("changed", () -> house.changed(wrong, 0));
            Check.dueIndex("published", () -> house.published(wrong, 0));
        }
    }
}
