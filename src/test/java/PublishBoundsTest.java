/** The boundary cases of part 4 of the terms and of promises 23 to 26, a sentence a test. */
public final class PublishBoundsTest {
    private static final int NONE = Check.NONE;
    private static final int LOST = Check.LOST;
    private static final int LEAST = Integer.MIN_VALUE;
    private static final int GREATEST = Integer.MAX_VALUE;

    public static void main(String[] args) {
        constants();
        publishedAtThatMoment();
        publishedLostToo();
        published300TimesOfEachTrace();
        changedIfAnotherOneNow();
        changedIfLostThen();
        publishTellsHowMany();
        publishedNothing();
        changedOfEachK();
        changedWithNothingPublished();
        changedOfNoSuchTrace();
        publishedOrLost();
        publishedOfNoSuchTrace();
        countTimes();
        countWindows();
        countTrains();
        countClauses();
        countBytes();
        countPublished();
        countOthers();
        askingChangesNothing();
        Check.finish();
    }

    /** Readings of TRACE 0 alone; at TIME 0 FINAL is the reading itself. */
    private static NeedleHouse house(int... readings) {
        NeedleHouse house = new NeedleHouse();
        Check.row(house, 0, 0, readings);
        Check.mean(house, 0, 0, readings[0]);
        return house;
    }

    private static void constants() {
        Check.sentence("The constants: LOST = -2000000000");
        Check.due("LOST", -2000000000, NeedleHouse.LOST);
        Check.due("NONE", -1, NeedleHouse.NONE);
        NeedleHouse house = house(-1, LOST);
        Check.due("a reading of -1 is no NONE", -1, house.at(0, 0, 0));
        Check.due("where a value is told", -2000000000, house.at(0, 0, 1));
    }

    private static void publishedAtThatMoment() {
        Check.sentence("PUBLISHED are all FINAL values as they are at that moment");
        NeedleHouse house = house(10, 20, 30);
        house.publish();
        house.shift(0, 0, 1, 5);
        house.read(0, 0, 40);
        house.end(0);
        Check.mean(house, 0, 2, 900);
        Check.due("as it was", 20, house.published(0, 1));
        Check.due("as it was", 30, house.published(0, 2));
        Check.due("a reading of later", LOST, house.published(0, 3));
        Check.rule(house, "near 0;limit 0;window 2;");
        Check.due("another RULE changes nothing of it", 20, house.published(0, 1));
        house.publish();
        Check.due("published anew", 900, house.published(0, 2));
        Check.due("at each moment the latest alone", house.value(0, 3), house.published(0, 3));
    }

    private static void publishedLostToo() {
        Check.sentence("PUBLISHED .. (LOST too, ..)");
        NeedleHouse house = house(10, LOST, 30);
        house.publish();
        Check.due("LOST", LOST, house.published(0, 1));
        house.lost(1, 0, 1);
        house.read(1, 0, 25);
        Check.due("LOST still", LOST, house.published(0, 1));
        Check.due("CHANGED for that", 1, house.changed(0, 0));
        house.publish();
        Check.due("not LOST any more", 25, house.published(0, 1));
    }

    private static void published300TimesOfEachTrace() {
        Check.sentence("PUBLISHED .. (.. 300 TIMES of each TRACE)");
        NeedleHouse house = new NeedleHouse();
        for (int trace = 0; trace < 3; trace++) {
            house.read(trace % 2, trace, 1 + trace);
            house.lost(trace % 2, trace, 298);
            house.read(trace % 2, trace, 11 + trace);
            Check.mean(house, trace, 0, 100 * trace);
        }
        Check.due("two of each", 6, house.publish());
        for (int trace = 0; trace < 3; trace++) {
            Check.due("the first", 100 * trace, house.published(trace, 0));
            Check.due("the second", LOST, house.published(trace, 1));
            Check.due("the last but one", LOST, house.published(trace, 298));
            Check.due("the last", 100 * trace + 10, house.published(trace, 299));
            house.shift(trace % 2, trace, 299, 1);
            Check.due("CHANGED at the last", 299, house.changed(trace, 0));
            Check.due("CHANGED there alone", NONE, house.changed(trace, 1));
        }
    }

    private static void changedIfAnotherOneNow() {
        Check.sentence("CHANGED is a TRACE at a TIME, if FINAL is another one now");
        NeedleHouse house = house(10, 20, 30, 40);
        house.publish();
        Check.due("none", NONE, house.changed(0, 0));
        house.shift(0, 0, 3, 1);
        Check.due("by 1", 3, house.changed(0, 0));
        Check.due("at that TIME alone", NONE, house.changed(0, 1));
        house.shift(0, 0, 3, -1);
        Check.due("as it was", NONE, house.changed(0, 0));
        house.shift(0, 0, 0, 5);
        Check.due("JOINED is another, FINAL is not", NONE, house.changed(0, 0));
        Check.due("JOINED is another, FINAL is not", 10, house.value(0, 0));
        Check.rule(house, "limit 0;window 2;");
        Check.due("a RULE that leaves JOINED", NONE, house.changed(0, 0));
        Check.mean(house, 0, 1, 1020);
        Check.due("another BASELINE", 0, house.changed(0, 0));
        Check.due("another BASELINE", 3, house.changed(0, 3));
        Check.due("another TRACE is as it was", NONE, house.changed(1, 0));
        NeedleHouse near = house(10, 20);
        Check.row(near, 1, 0, 10, 24);
        near.publish();
        Check.rule(near, "near 3;");
        Check.due("another near", 1, near.changed(0, 0));
    }

    private static void changedIfLostThen() {
        Check.sentence("CHANGED .. (or LOST now, or was then)");
        NeedleHouse house = new NeedleHouse();
        house.publish();
        Check.due("LOST then and now", NONE, house.changed(0, 0));
        Check.row(house, 0, 0, 5, LOST, 0);
        Check.due("LOST then and now: no BASELINE", NONE, house.changed(0, 0));
        Check.mean(house, 0, 2, 0);
        Check.due("LOST then", 0, house.changed(0, 0));
        Check.due("LOST then, 0 now; at 1 LOST still", 2, house.changed(0, 1));
        Check.due("no more", NONE, house.changed(0, 2));
    }

    private static void publishTellsHowMany() {
        Check.sentence("Promise 23: PUBLISHED: how many values are not LOST.");
        NeedleHouse house = house(0, LOST, 0);
        Check.due("values of 0 count", 2, house.publish());
        Check.row(house, 1, 1, 5, 6);
        Check.due("no BASELINE there", 2, house.publish());
        Check.mean(house, 1, 1, 5);
        Check.due("of all TRACES", 4, house.publish());
        Check.row(house, 0, 2, 5);
        Check.mean(house, 2, 0, 5);
        Check.due("of all TRACES", 5, house.publish());
        NeedleHouse full = new NeedleHouse();
        for (int i = 0; i < 300; i++) {
            full.read(0, 0, i);
        }
        Check.mean(full, 0, 299, 0);
        Check.due("300 of one TRACE", 300, full.publish());
        full.train(0, 300);
        Check.due("TRAINS leave none out", 300, full.publish());
    }

    private static void publishedNothing() {
        Check.sentence("Promise 23: how many values are not LOST (none)");
        NeedleHouse house = new NeedleHouse();
        Check.due("none", 0, house.publish());
        Check.due("PUBLISHED all the same", 1, house.count(5));
        NeedleHouse lost = new NeedleHouse();
        lost.lost(0, 0, 300);
        Check.mean(lost, 0, 0, 5);
        Check.due("all LOST", 0, lost.publish());
    }

    private static void changedOfEachK() {
        Check.sentence("Promise 24: The TIME of the k-th that is CHANGED of a TRACE, rising; NONE");
        NeedleHouse house = new NeedleHouse();
        house.publish();
        for (int i = 0; i < 300; i++) {
            house.read(0, 1, 0);
        }
        Check.mean(house, 1, 0, 0);
        for (int k : new int[] {0, 1, 150, 298, 299}) {
            Check.due("all are CHANGED, k " + k, k, house.changed(1, k));
        }
        for (int wrong : new int[] {LEAST, LOST, -1, 300, 301, GREATEST}) {
            Check.due("k " + wrong, NONE, house.changed(1, wrong));
        }
        for (int wrong : new int[] {LEAST, -1, 300, GREATEST}) {
            Twins.refused("k " + wrong, NONE, Pasts::rich, one -> one.changed(1, wrong));
        }
    }

    private static void changedWithNothingPublished() {
        Check.sentence("Promise 24: NONE, also with nothing PUBLISHED");
        NeedleHouse house = house(1, 2, 3);
        for (int k : new int[] {LEAST, -1, 0, 1, 2, 299, GREATEST}) {
            Check.due("k " + k, NONE, house.changed(0, k));
        }
        house.publish();
        Check.due("nothing has changed since", NONE, house.changed(0, 0));
    }

    private static void changedOfNoSuchTrace() {
        Check.sentence("Promise 24: (so below): no such .. TRACE");
        for (int wrong : new int[] {LEAST, -1, 3, GREATEST}) {
            Twins.refusedIndex("TRACE " + wrong, Pasts::rich, house -> house.changed(wrong, 0));
            Twins.refusedIndex("TRACE " + wrong + ", nothing PUBLISHED", Pasts::none,
                    house -> house.changed(wrong, 0));
        }
    }

    private static void publishedOrLost() {
        Check.sentence("Promise 25: What was PUBLISHED; LOST.");
        NeedleHouse house = house(7, LOST);
        Check.due("nothing yet", LOST, house.published(0, 0));
        house.publish();
        Check.due("at TIME 0", 7, house.published(0, 0));
        Check.due("LOST then", LOST, house.published(0, 1));
        Check.due("none then", LOST, house.published(0, 299));
        for (int wrong : new int[] {LEAST, LOST, -1, 300, 301, GREATEST}) {
            Check.due("at TIME " + wrong, LOST, house.published(0, wrong));
            Twins.refused("at TIME " + wrong, LOST, Pasts::rich, one -> one.published(0, wrong));
        }
    }

    private static void publishedOfNoSuchTrace() {
        Check.sentence("Promise 25: (so below): no such .. TRACE");
        for (int wrong : new int[] {LEAST, -1, 3, GREATEST}) {
            Twins.refusedIndex("TRACE " + wrong, Pasts::rich, house -> house.published(wrong, 0));
            Twins.refusedIndex("TRACE " + wrong + ", nothing PUBLISHED", Pasts::none,
                    house -> house.published(wrong, -1));
        }
    }

    private static void countTimes() {
        Check.sentence("Promise 26: 0 TIMES that any row has");
        for (int set = 0; set < 2; set++) {
            for (int trace = 0; trace < 3; trace++) {
                NeedleHouse house = new NeedleHouse();
                Check.due("none", 0, house.count(0));
                house.read(set, trace, 5);
                Check.due("one", 1, house.count(0));
                house.lost(1 - set, trace, 1);
                Check.due("one of each SET", 1, house.count(0));
                house.lost(set, trace, 299);
                Check.due("all", 300, house.count(0));
                house.read(set, trace, 5);
                Check.due("no more", 300, house.count(0));
            }
        }
        NeedleHouse house = new NeedleHouse();
        Check.mean(house, 0, 200, 5);
        house.train(200, 5);
        Check.due("MEASURES and TRAINS don't count", 0, house.count(0));
    }

    private static void countWindows() {
        Check.sentence("Promise 26: 1 WINDOWS");
        NeedleHouse house = new NeedleHouse();
        Check.due("none", 0, house.count(1));
        house.lost(1, 2, 9);
        Check.due("9 TIMES", 0, house.count(1));
        house.lost(1, 2, 1);
        Check.due("10 TIMES", 1, house.count(1));
        house.lost(1, 2, 290);
        Check.due("300 TIMES", 30, house.count(1));
        Check.rule(house, "window 2;");
        Check.due("the most", 150, house.count(1));
        Check.rule(house, "window 60;");
        Check.due("the fewest of 300", 5, house.count(1));
    }

    private static void countTrains() {
        Check.sentence("Promise 26: 2 TRAINS");
        NeedleHouse house = new NeedleHouse();
        for (int i = 0; i < 10; i++) {
            Check.due("TRAINS", i, house.count(2));
            house.train(7, 1);
        }
        Check.due("all", 10, house.count(2));
        house.train(7, 1);
        Check.due("no more", 10, house.count(2));
    }

    private static void countClauses() {
        Check.sentence("Promise 26: 3 CLAUSES of the RULE");
        NeedleHouse house = new NeedleHouse();
        Check.due("no RULE", 0, house.count(3));
        Check.rule(house, "near 1;near 1;near 2;");
        Check.due("those of one kind too", 3, house.count(3));
        Check.rule(house, "near 1;x");
        Check.due("a FAULT", 3, house.count(3));
        Check.rule(house, Pasts.fullText());
        Check.due("the most", 12, house.count(3));
        house.rule(0);
        Check.due("an empty RULE", 0, house.count(3));
    }

    private static void countBytes() {
        Check.sentence("Promise 26: 4 bytes of the TAPE");
        NeedleHouse house = new NeedleHouse();
        for (int i = 0; i < 15; i++) {
            Check.due("bytes", 20 * i, house.count(4));
            house.feed(0, 0, 0, 0, 0);
        }
        Check.due("all", 300, house.count(4));
        house.feed(0, 0, 0, 0, 0);
        Check.due("no more", 300, house.count(4));
        house.rule(0);
        Check.due("empty then", 0, house.count(4));
    }

    private static void countPublished() {
        Check.sentence("Promise 26: 5 how often it was PUBLISHED");
        NeedleHouse house = new NeedleHouse();
        for (int i = 0; i < 5; i++) {
            Check.due("how often", i, house.count(5));
            house.publish();
        }
        Check.due("nothing but publish() counts", 5, house.count(5));
    }

    private static void countOthers() {
        Check.sentence("Promise 26: NONE for others.");
        for (int wrong : new int[] {LEAST, LOST, -2, -1, 6, 7, GREATEST}) {
            Twins.refused("count(" + wrong + ")", NONE, Pasts::rich, house -> house.count(wrong));
            Twins.refused("count(" + wrong + ")", NONE, Pasts::none, house -> house.count(wrong));
        }
    }

    private static void askingChangesNothing() {
        Check.sentence("Nothing is promised beyond the answers and state changes described above");
        for (Twins.Past past : new Twins.Past[] {Pasts::none, Pasts::rich, Pasts::full}) {
            Twins.asked("at", past, house -> house.at(0, 0, 1));
            Twins.asked("jump", past, house -> house.jump(0, 0, 0));
            Twins.asked("joined", past, house -> house.joined(0, 3));
            Twins.asked("told", past, house -> house.told(0, 1, 4));
            Twins.asked("pieces", past, house -> house.pieces(0));
            Twins.asked("piece", past, house -> house.piece(0, 1, 2));
            Twins.asked("baseline", past, house -> house.baseline(0, 299));
            Twins.asked("value", past, house -> house.value(1, 3));
            Twins.asked("fault", past, house -> house.fault());
            Twins.asked("range", past, house -> house.range(0, 1));
            Twins.asked("index", past, house -> house.index(1));
            Twins.asked("storm", past, house -> house.storm(0, 1));
            Twins.asked("quiet", past, house -> house.quiet(0));
            Twins.asked("changed", past, house -> house.changed(1, 0));
            Twins.asked("published", past, house -> house.published(0, 0));
            Twins.asked("count", past, house -> house.count(4));
        }
    }
}
