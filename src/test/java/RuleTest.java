/** Promises 15 to 17: feed, rule, fault. */
public final class RuleTest {
    private static final int LOST = Check.LOST;

    public static void main(String[] args) {
        feed();
        bytesHighestFirst();
        ruleTakesTheTape();
        goodTexts();
        whatTheClausesTell();
        theLastOneCounts();
        whatCountsWithout();
        wrongPlaces();
        wrongNumbers();
        tooMany();
        theRuleStays();
        faultStays();
        Check.finish();
    }

    private static void feed() {
        NeedleHouse house = new NeedleHouse();
        for (int i = 1; i <= 15; i++) {
            Check.due("feed", 20 * i, house.feed(-1, 0, 1, Integer.MAX_VALUE, Integer.MIN_VALUE));
        }
        Check.due("a feed beyond 300", -1, house.feed(0, 0, 0, 0, 0));
        Check.due("bytes of the TAPE", 300, house.count(4));
    }

    private static void bytesHighestFirst() {
        NeedleHouse house = new NeedleHouse();
        house.feed(0x6C696D69, 0x74313B6E, 0x65617232, 0x3B202020, 0xFF202020);
        Check.due("bytes in order", -9, house.rule(20));
        Check.due("the byte 255", 16, house.fault());
        house.feed(0x6C696D69, 0x74313B6E, 0x65617232, 0x3B202020, 0x20202020);
        Check.due("bytes in order", 2, house.rule(20));
    }

    private static void ruleTakesTheTape() {
        NeedleHouse house = new NeedleHouse();
        Check.due("an empty TAPE", 0, house.rule(0));
        Check.feed(house, "near 1;near 2;".getBytes());
        Check.dueArgument("rule(-1)", () -> house.rule(-1));
        Check.dueArgument("rule(21)", () -> house.rule(21));
        Check.due("the TAPE stays", 20, house.count(4));
        Check.due("the first 7 bytes", 1, house.rule(7));
        Check.due("the TAPE is empty", 0, house.count(4));
        Check.dueArgument("rule(1)", () -> house.rule(1));
        for (int n : new int[] {3, 4, 5, 6}) {
            Check.feed(house, "near 12;near 2;".getBytes());
            Check.due("what stands behind the first " + n + " is not read", -9, house.rule(n));
            Check.due("the place of that FAULT", n == 3 ? 0 : n, house.fault());
        }
        Check.feed(house, "index 1 9;".getBytes());
        Check.due("what stands behind the first 7 is not read", -9, house.rule(7));
        Check.due("the place of that FAULT", 7, house.fault());
        Check.feed(house, "bad".getBytes());
        Check.due("a FAULT", -9, house.rule(3));
        Check.due("the TAPE is empty then too", 0, house.count(4));
    }

    private static void goodTexts() {
        good("", 0);
        good("   ", 0);
        good("limit 0;", 1);
        good("limit 10000;", 1);
        good("limit0000000000000000000000010000;", 1);
        good("limit5;near5;share1of2;window10;storm5;index5;", 6);
        good("  limit  5  ;  share  1  of  2  ;  index  1  2  ;  ", 3);
        good("share 0 of 1;", 1);
        good("share 10000of10000;", 1);
        good("window 2;window 60;", 2);
        good("storm 10000;", 1);
        good("index 0;", 1);
        good("index 0 1 2 3 4 5 6 7 10000;", 1);
        good("near1;near1;near1;near1;near1;near1;near1;near1;near1;near1;near1;near1; ", 12);
    }

    private static void whatTheClausesTell() {
        NeedleHouse house = new NeedleHouse();
        Check.row(house, 0, 0, 0, 40, 0, 10, 0, 10, 0, 10, 30);
        Check.row(house, 1, 0, 0, 0, 0, 6);
        Check.mean(house, 0, 0, 0);
        Check.due("limit 50", -1, house.jump(0, 0, 0));
        Check.due("near 5", 8, house.joined(0, 3));
        Check.due("window 10", 0, house.count(1));
        Check.rule(house, "limit 39;near 3;window 3;share 2 of 3;storm 2;index 10 20;");
        Check.due("limit", 1, house.jump(0, 0, 0));
        Check.due("near", 6, house.joined(0, 3));
        Check.due("window", 3, house.count(1));
        Check.due("CLAUSES", 6, house.count(3));
        Check.due("index of WINDOW 1", 1, house.index(1));
        Check.due("index of WINDOW 2", 2, house.index(2));
        Check.due("storm 2", -1, house.storm(0, 0));
        Check.rule(house, "window 3;storm 1;index 10 20;");
        Check.due("storm 1", 1, house.storm(0, 0));
        Check.due("storm 1", 2, house.storm(0, 1));
        Check.rule(house, "");
        Check.due("limit 50 again", -1, house.jump(0, 0, 0));
        Check.due("no WINDOW again", 0, house.count(1));
        Check.due("no CLAUSES", 0, house.count(3));
    }

    private static void theLastOneCounts() {
        NeedleHouse house = new NeedleHouse();
        Check.row(house, 0, 0, 0, 9, LOST, LOST, 0, 20, LOST, 3);
        Check.mean(house, 0, 0, 0);
        Check.due("CLAUSES", 4, Check.rule(house, "window 2;index 1 2 3 4 5 6 7 8 9;index 9;window 4;"));
        Check.due("the last window", 2, house.count(1));
        Check.due("the last index", 1, house.index(0));
        Check.rule(house, "window 4;share 1 of 1;share 1 of 2;");
        Check.due("the last share", 9, house.range(0, 0));
        Check.rule(house, "window 4;share 1 of 2;share 3 of 4;");
        Check.due("the last share", -1, house.range(0, 0));
        Check.due("the last share", 20, house.range(0, 1));
    }

    private static void whatCountsWithout() {
        NeedleHouse house = new NeedleHouse();
        Check.row(house, 0, 0, 0, 1, 2, 3, 5, LOST, LOST, LOST, LOST, LOST, 0, 1, 2, 3);
        Check.mean(house, 0, 0, 0);
        for (String text : new String[] {"", "window 3;share 3 of 7;index 4;near 2;limit 7;storm 1;"}) {
            Check.rule(house, text);
            Check.rule(house, "near 1;");
            Check.due("share 1 of 2", 5, house.range(0, 0));
            Check.due("index 5 10 ..", 1, house.index(0));
            Check.due("window 10", 1, house.count(1));
        }
        house.lost(0, 0, 5);
        Check.due("window 10", 1, house.count(1));
        house.lost(0, 0, 1);
        Check.due("window 10", 2, house.count(1));
        Check.due("share 1 of 2", -1, house.range(0, 1));
    }

    private static void wrongPlaces() {
        bad(";", 1, 0);
        bad("5", 1, 0);
        bad(" ;", 1, 1);
        bad("limits 5;", 1, 0);
        bad("lim", 1, 0);
        bad("timit 5;", 1, 0);
        bad("limid 5;", 1, 0);
        bad("Limit 5;", 1, 0);
        bad("liMit 5;", 1, 0);
        bad("of 5;", 1, 0);
        bad("limit", 1, 5);
        bad("limit   ", 1, 8);
        bad("limit 5", 1, 7);
        bad("limit 5  ", 1, 9);
        bad("limit;", 1, 5);
        bad("limit -5;", 1, 6);
        bad("limit 5 6;", 1, 8);
        bad("limit 5;;", 1, 8);
        bad("limit 5 near 5;", 1, 8);
        bad("limit\t5;", 1, 5);
        bad("share 1", 1, 7);
        bad("share 1;", 1, 7);
        bad("share 1 2;", 1, 8);
        bad("share 1 off 2;", 1, 8);
        bad("share 1 o", 1, 8);
        bad("share 1 of", 1, 10);
        bad("share 1 of ;", 1, 11);
        bad("share 1 of 2", 1, 12);
        bad("share 1 of 2 3;", 1, 13);
        bad("index", 1, 5);
        bad("index;", 1, 5);
        bad("index 1 2", 1, 9);
        bad("index 1 x;", 1, 8);
        bad("index 1,2;", 1, 7);
        bad("near 1;x", 1, 7);
        bad("near 1;  x", 1, 9);
        bad("near 1;\0", 1, 7);
        bad("near 1;" + (char) 233, 1, 7);
        bad("near 1.5;", 1, 6);
    }

    private static void wrongNumbers() {
        bad("limit 10001;", 2, 6);
        bad("near  99999999999999999999999999999999999999;", 2, 6);
        bad("near 4294967297;", 2, 5);
        bad("storm 010001;", 2, 6);
        bad("limit 10001", 2, 6);
        bad("share 10001 of 10002;", 2, 6);
        bad("share 1 of 10001;", 2, 11);
        bad("share 0 of 0;", 2, 11);
        bad("share 3 of 2;", 2, 11);
        bad("window 0;", 2, 7);
        bad("window 1;", 2, 7);
        bad("window 61;", 2, 7);
        bad("window 61x", 2, 7);
        bad("window 10001;", 2, 7);
        bad("index 10001;", 2, 6);
        bad("index 5 5;", 2, 8);
        bad("index 0 0;", 2, 8);
        bad("index 5 6 4;", 2, 10);
        bad("index 5 6 10001;", 2, 10);
        bad("limit 10001;x", 2, 6);
    }

    private static void tooMany() {
        String twelve = "near1;near1;near1;near1;near1;near1;near1;near1;near1;near1;near1;near1;";
        bad(twelve + "near1;", 3, 72);
        bad(twelve + "  near1;", 3, 74);
        bad(twelve + "window", 3, 72);
        bad(twelve + "window 1;", 3, 72);
        bad(twelve + "windows", 1, 72);
        bad(twelve + ";", 1, 72);
        bad("index 0 1 2 3 4 5 6 7 8 9;", 3, 24);
        bad("index 0 1 2 3 4 5 6 7 8 9", 3, 24);
        bad("index 0 1 2 3 4 5 6 7 8 8;", 2, 24);
        bad("index 0 1 2 3 4 5 6 7 8 10001;", 2, 24);
        bad("index 0 1 2 3 4 5 6 7 8 x;", 1, 24);
    }

    private static void theRuleStays() {
        NeedleHouse house = new NeedleHouse();
        Check.row(house, 0, 0, 0, 1, 2, 3, 4, 5);
        Check.rule(house, "window 2;near 7;");
        Check.due("WINDOWS", 3, house.count(1));
        Check.due("a FAULT", -9, Check.rule(house, "window 3;x"));
        Check.due("the RULE stays", 3, house.count(1));
        Check.due("its CLAUSES stay", 2, house.count(3));
    }

    private static void faultStays() {
        NeedleHouse house = new NeedleHouse();
        Check.due("a FAULT", -9, Check.rule(house, "near 3;x"));
        Check.due("its place", 7, house.fault());
        Check.due("its place again", 7, house.fault());
        Check.dueArgument("rule(5)", () -> house.rule(5));
        Check.due("its place after a call that throws", 7, house.fault());
        Check.due("a good one", 1, Check.rule(house, "near 3;"));
        Check.due("no FAULT then", -1, house.fault());
    }

    private static void good(String text, int clauses) {
        NeedleHouse house = new NeedleHouse();
        Check.due("\"" + text + "\"", clauses, Check.rule(house, text));
        Check.due("fault of \"" + text + "\"", -1, house.fault());
        Check.due("CLAUSES of \"" + text + "\"", clauses, house.count(3));
    }

    private static void bad(String text, int fault, int place) {
        NeedleHouse house = new NeedleHouse();
        Check.due("\"" + text + "\"", fault - 10, Check.rule(house, text));
        Check.due("fault of \"" + text + "\"", place, house.fault());
        Check.due("CLAUSES of \"" + text + "\"", 0, house.count(3));
    }
}
