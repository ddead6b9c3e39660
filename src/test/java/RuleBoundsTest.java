import java.nio.charset.StandardCharsets;

/** The boundary cases of RULE and FAULTS in part 3 of the terms and of promises 15 to 17, a sentence a test. */
public final class RuleBoundsTest {
    private static final int NONE = Check.NONE;
    private static final int LOST = Check.LOST;
    private static final int LEAST = Integer.MIN_VALUE;
    private static final int GREATEST = Integer.MAX_VALUE;
    private static final String TWELVE =
            "near1;near1;near1;near1;near1;near1;near1;near1;near1;near1;near1;near1;";

    public static void main(String[] args) {
        emptyText();
        eachClause();
        numbersOfDigits();
        numbersUpTo10000();
        wordsOfSmallLetters();
        blanksAheadAndAtTheEnd();
        blankBetweenTwoNumbers();
        atMostTwelveClauses();
        lastOneOfAKindCounts();
        withoutLimit();
        withoutNear();
        withoutShare();
        withoutWindow();
        withoutStorm();
        withoutIndex();
        firstFaultFromTheLeft();
        faultAtItsFirstByte();
        whatCantStandThere();
        textEndsTooEarly();
        numberAbove10000();
        secondNumberOfShare();
        windowNot2To60();
        numberOfIndexNotAbove();
        thirteenthClause();
        tenthNumberOfIndex();
        ofOneTheLeast();
        feedOfTwentyBytes();
        feedHighestFirst();
        feedBeyond300();
        ruleOfTheFirstBytes();
        ruleEmptiesTheTape();
        ruleTellsItsClauses();
        ruleWithAFault();
        ruleOfTooManyBytes();
        faultOfTheLatestRule();
        noFault();
        Check.finish();
    }

    private static void good(String text, int clauses) {
        NeedleHouse house = new NeedleHouse();
        Check.due("\"" + text + "\"", clauses, Check.rule(house, text));
        Check.due("fault of \"" + text + "\"", NONE, house.fault());
        Check.due("CLAUSES of \"" + text + "\"", clauses, house.count(3));
    }

    /** The text has this FAULT at this place; the RULE, its CLAUSES and all else stay, but for the TAPE. */
    private static void bad(String text, int fault, int place) {
        NeedleHouse house = new NeedleHouse();
        Check.rule(house, "window 2;near 7;");
        house.lost(0, 0, 9);
        Check.due("\"" + text + "\"", fault - 10, Check.rule(house, text));
        Check.due("fault of \"" + text + "\"", place, house.fault());
        Check.due("CLAUSES behind \"" + text + "\"", 2, house.count(3));
        Check.due("WINDOWS behind \"" + text + "\"", 4, house.count(1));
        Check.due("the TAPE behind \"" + text + "\"", 0, house.count(4));
    }

    private static NeedleHouse house(String rule, int[] row0, int... row1) {
        NeedleHouse house = new NeedleHouse();
        Check.row(house, 0, 0, row0);
        Check.row(house, 1, 0, row1);
        Check.mean(house, 0, 0, 0);
        Check.rule(house, rule);
        return house;
    }

    private static int[] row(int... readings) {
        return readings;
    }

    private static void emptyText() {
        Check.sentence("RULE: a text: { CLAUSE \";\" } (none of them)");
        good("", 0);
        good(" ", 0);
        good(" ".repeat(300), 0);
        bad(";", 1, 0);
        bad("  ;", 1, 2);
        bad("near 1;;", 1, 7);
        bad("near 1; ;", 1, 8);
    }

    private static void eachClause() {
        Check.sentence("CLAUSE: \"limit\" N, \"near\" N, \"share\" N \"of\" N, \"window\" N, \"storm\" N, or \"index\" N { N }");
        good("limit 1;", 1);
        good("near 1;", 1);
        good("share 1 of 1;", 1);
        good("window 2;", 1);
        good("storm 1;", 1);
        good("index 1;", 1);
        good("index 1 2;", 1);
        good("limit 1;near 1;share 1 of 1;window 2;storm 1;index 1;", 6);
        for (String word : new String[] {"limit", "near", "storm", "window"}) {
            bad(word + " 2 3;", 1, word.length() + 3);
            bad(word + " 2 of 3;", 1, word.length() + 3);
        }
        bad("share 1 of 2 of 3;", 1, 13);
        bad("share 1 of 2 3;", 1, 13);
        bad("index 1 of 2;", 1, 8);
        bad("of 1;", 1, 0);
    }

    private static void numbersOfDigits() {
        Check.sentence("N: digits, as many as stand there");
        good("limit0;", 1);
        good("limit 9;", 1);
        good("limit 0000;", 1);
        good("limit " + "0".repeat(288) + "10000;", 1);
        bad("limit " + "0".repeat(288) + "10001;", 2, 6);
        bad("limit /;", 1, 6);
        bad("limit :;", 1, 6);
        bad("limit 1/;", 1, 7);
        bad("limit 9:;", 1, 7);
        bad("limit -1;", 1, 6);
        bad("limit +1;", 1, 6);
        bad("limit 1 0;", 1, 8);
        Check.due("all of them are read", 1, house("limit 1234;", row(0, 1235), 0, 0).jump(0, 0, 0));
        Check.due("all of them are read", NONE, house("limit 1234;", row(0, 1234), 0, 0).jump(0, 0, 0));
    }

    private static void numbersUpTo10000() {
        Check.sentence("N: .. 0 to 10,000");
        for (String word : new String[] {"limit", "near", "storm", "index"}) {
            good(word + " 0;", 1);
            good(word + " 1;", 1);
            good(word + " 9999;", 1);
            good(word + " 10000;", 1);
            bad(word + " 10001;", 2, word.length() + 1);
        }
        good("share 0 of 10000;", 1);
        good("share 10000 of 10000;", 1);
        bad("share 10001 of 10001;", 2, 6);
        bad("share 0 of 10001;", 2, 11);
        Check.due("limit 0", 1, house("limit 0;", row(0, 1), 0, 0).jump(0, 0, 0));
        Check.due("limit 10000", NONE, house("limit 10000;", row(0, 10000), 0, 0).jump(0, 0, 0));
        Check.due("limit 10000", 1, house("limit 10000;", row(0, 10001), 0, 0).jump(0, 0, 0));
        Check.due("near 0", 1, house("near 0;", row(1), 0).joined(0, 0));
        Check.due("near 10000", 5000, house("near 10000;", row(10000), 0).joined(0, 0));
        Check.due("near 10000", 10001, house("near 10000;", row(10001), 0).joined(0, 0));
        Check.due("index 0", 1, house("window 2;index 0;", row(0, 0)).index(0));
        Check.due("index 10000", 0, house("window 2;index 10000;", row(0, 9999)).index(0));
        Check.due("index 10000", 1, house("window 2;index 10000;", row(0, 10000)).index(0));
        Check.due("storm 0", 2, house("window 2;storm 0;", row(0, 0, 0, 0)).storm(0, 1));
        Check.due("storm 10000", NONE, house("window 2;storm 10000;", row(0, 900, 0, 900)).storm(0, 1));
    }

    private static void wordsOfSmallLetters() {
        Check.sentence("WORDS: small letters, as many as stand there");
        bad("limita 1;", 1, 0);
        bad("limitz 1;", 1, 0);
        bad("limi 1;", 1, 0);
        bad("l 1;", 1, 0);
        bad("limitlimit 1;", 1, 0);
        bad("Limit 1;", 1, 0);
        bad("limiT 1;", 1, 0);
        bad("LIMIT 1;", 1, 0);
        bad("lim it 1;", 1, 0);
        bad("limit` 1;", 1, 5);
        bad("limit{ 1;", 1, 5);
        bad("limitA 1;", 1, 5);
        bad("limit" + (char) 233 + " 1;", 1, 5);
        bad("share 1 ofa 2;", 1, 8);
        bad("share 1 o 2;", 1, 8);
        bad("share 1 Of 2;", 1, 8);
        bad("share 1 fo 2;", 1, 8);
        bad("share 1 of{2;", 1, 10);
        bad("nears 1;", 1, 0);
        bad("shared 1 of 2;", 1, 0);
        bad("windows 2;", 1, 0);
        bad("storms 2;", 1, 0);
        bad("indexa 2;", 1, 0);
        good("limit1;near1;share1of1;window2;storm1;index1 2;", 6);
        for (String clause : new String[] {"limit 2;", "near 2;", "share 1 of 2;", "window 2;", "storm 2;", "index 2;"}) {
            for (int i = 0; i < clause.indexOf(' '); i++) {
                char other = clause.charAt(i) == 'z' ? 'a' : (char) (clause.charAt(i) + 1);
                bad(clause.substring(0, i) + other + clause.substring(i + 1), 1, 0);
                bad(clause.substring(0, i) + clause.substring(i + 1), 1, 0);
            }
        }
        bad("share 1 pf 2;", 1, 8);
        bad("share 1 og 2;", 1, 8);
    }

    private static void blanksAheadAndAtTheEnd() {
        Check.sentence("blanks (32) may stand ahead of all these, and at the end");
        good(" limit 1;", 1);
        good("   limit   1   ;   ", 1);
        good("share   1   of   1   ;  near  1  ;  ", 2);
        good("limit 1; ", 1);
        good("limit 1;" + " ".repeat(292), 1);
        good(" ".repeat(292) + "limit 1;", 1);
        for (int sign : new int[] {0, 9, 10, 13, 31, 33, 95, 160, 255}) {
            String no = "" + (char) sign;
            bad(no, 1, 0);
            bad(no + "limit 1;", 1, 0);
            bad("limit" + no + "1;", 1, 5);
            bad("limit 1" + no + ";", 1, 7);
            bad("limit 1;" + no, 1, 8);
        }
    }

    private static void blankBetweenTwoNumbers() {
        Check.sentence("one at least between two N");
        Check.due("one N", 0, house("window 2;index 12;", row(0, 11)).index(0));
        Check.due("one N", 1, house("window 2;index 12;", row(0, 12)).index(0));
        Check.due("two N", 1, house("window 2;index 1 2;", row(0, 1)).index(0));
        Check.due("two N", 2, house("window 2;index 1 2;", row(0, 2)).index(0));
        good("index 1   2;", 1);
        bad("index 1,2;", 1, 7);
        bad("index 1;2;", 1, 8);
    }

    private static void atMostTwelveClauses() {
        Check.sentence("At most 12 CLAUSES");
        good(TWELVE, 12);
        good(TWELVE + "   ", 12);
        good(TWELVE.substring(6), 11);
        good(Pasts.fullText(), 12);
        bad(TWELVE + "near1;", 3, 72);
    }

    private static void lastOneOfAKindCounts() {
        Check.sentence("of a kind the last one counts");
        Check.due("limit", NONE, house("limit 3;near 1;limit 9;", row(0, 9), 0, 0).jump(0, 0, 0));
        Check.due("limit", 1, house("limit 9;near 1;limit 3;", row(0, 9), 0, 0).jump(0, 0, 0));
        Check.due("near", 4, house("near 0;limit 1;near 9;", row(0), 9).joined(0, 0));
        Check.due("near", 0, house("near 9;limit 1;near 0;", row(0), 9).joined(0, 0));
        Check.due("share", NONE, house("window 2;share 1 of 2;share 1 of 1;", row(0, LOST)).range(0, 0));
        Check.due("share", 0, house("window 2;share 1 of 1;share 1 of 2;", row(0, LOST)).range(0, 0));
        Check.due("window", 2, house("window 4;window 2;", row(0, 0, 0, 0)).count(1));
        Check.due("window", 1, house("window 2;window 4;", row(0, 0, 0, 0)).count(1));
        int[] leaps = {0, 1, 1, 0};
        Check.due("storm", NONE, house("window 2;index 1 9;storm 1;storm 2;", leaps).storm(0, 0));
        Check.due("storm", 0, house("window 2;index 1 9;storm 2;storm 1;", leaps).storm(0, 0));
        Check.due("index, fewer N then", 1, house("window 2;index 1 2 3;index 4;", row(0, 4)).index(0));
        Check.due("index, more N then", 3, house("window 2;index 4;index 1 2 3;", row(0, 4)).index(0));
        Check.due("index, lower N then", 1, house("window 2;index 9;index 1;", row(0, 4)).index(0));
        good("near 1;near 2;near 3;", 3);
    }

    /** Both without any RULE, and with one that has other CLAUSES alone behind one that had this. */
    private static NeedleHouse[] without(String clause, String others, int[] row0, int... row1) {
        NeedleHouse never = house(others, row0, row1);
        NeedleHouse before = house(clause, row0, row1);
        Check.rule(before, others);
        NeedleHouse empty = house(clause + others, row0, row1);
        Check.rule(empty, others);
        return new NeedleHouse[] {never, before, empty};
    }

    private static void withoutLimit() {
        Check.sentence("Without: limit 50");
        for (NeedleHouse house : without("limit 7;", "", row(0, 50, -1), 0, 0, 0)) {
            Check.due("by 50 is none, by 51 is one", 2, house.jump(0, 0, 0));
        }
    }

    private static void withoutNear() {
        Check.sentence("Without: .. near 5");
        for (NeedleHouse house : without("near 700;", "limit 1;", row(0, 0), 5, 6)) {
            Check.due("by 5", 2, house.joined(0, 0));
            Check.due("by 6", 0, house.joined(0, 1));
        }
    }

    private static void withoutShare() {
        Check.sentence("Without: .. share 1 of 2");
        for (NeedleHouse house : without("share 1 of 1;", "window 4;",
                row(0, 3, LOST, LOST, 0, LOST, LOST, LOST))) {
            Check.due("two of four", 3, house.range(0, 0));
            Check.due("one of four", NONE, house.range(0, 1));
        }
    }

    private static void withoutWindow() {
        Check.sentence("Without: .. window 10");
        for (NeedleHouse house : without("window 3;", "", row(0, 0, 0, 0, 0, 0, 0, 0, 0))) {
            Check.due("9 TIMES", 0, house.count(1));
            house.read(0, 0, 7);
            Check.due("10 TIMES", 1, house.count(1));
            Check.due("the tenth is in it", 7, house.range(0, 0));
            house.lost(0, 0, 9);
            Check.due("19 TIMES", 1, house.count(1));
            house.lost(0, 0, 1);
            Check.due("20 TIMES", 2, house.count(1));
        }
    }

    private static void withoutStorm() {
        Check.sentence("Without: .. storm 5");
        for (NeedleHouse house : without("storm 1;", "window 2;", row(0, 69, 0, 69, 0, 0, 0, 70, 0, 70))) {
            Check.due("INDEX 4 is none, 5 is one", 3, house.storm(0, 0));
            Check.due("INDEX 4 is none, 5 is one", 2, house.storm(0, 1));
            Check.due("INDEX 4 is none, 5 is one", NONE, house.storm(1, 0));
        }
    }

    private static void withoutIndex() {
        Check.sentence("Without: .. index 5 10 20 40 70 120 200 330 500");
        int[] steps = {5, 10, 20, 40, 70, 120, 200, 330, 500};
        for (int i = 0; i < steps.length; i++) {
            for (NeedleHouse house : without("index 1 2 3;", "window 2;", row(0, steps[i] - 1, 0, steps[i]))) {
                Check.due("below " + steps[i], i, house.index(0));
                Check.due("just " + steps[i], i + 1, house.index(1));
            }
        }
        for (NeedleHouse house : without("index 1;", "window 2;", row(0, 30000))) {
            Check.due("far above all", 9, house.index(0));
        }
    }

    private static void firstFaultFromTheLeft() {
        Check.sentence("FAULTS, the first from the left");
        bad("limit 10001;x", 2, 6);
        bad("limit x;limit 10001;", 1, 6);
        bad("window 1;window 61;", 2, 7);
        bad("index 5 4 3;", 2, 8);
        bad("index 1 1 2 3 4 5 6 7 8 9;", 2, 8);
        bad("share 10001 off 0;", 2, 6);
        bad("share 5 of 4 x", 2, 11);
        bad("window 61", 2, 7);
        bad(TWELVE + "window 1;", 3, 72);
        bad(TWELVE + "near", 3, 72);
        bad(TWELVE.substring(6) + "near 10001;near 1;", 2, 71);
    }

    private static void faultAtItsFirstByte() {
        Check.sentence("FAULTS, .. at its first byte");
        bad("limitations 5;", 1, 0);
        bad("    limitations 5;", 1, 4);
        bad("limit      99999;", 2, 11);
        bad("limit 00099999;", 2, 6);
        bad("share 5   of   4;", 2, 15);
        bad("window    0061;", 2, 10);
        bad("index 1   1;", 2, 10);
        bad(TWELVE + "   near 1;", 3, 75);
        bad("index 1 2 3 4 5 6 7 8 9   0010;", 3, 26);
        bad("share 1   offer 2;", 1, 10);
        bad("limit 1   x;", 1, 10);
    }

    private static void whatCantStandThere() {
        Check.sentence("1 what can't stand there");
        bad("1", 1, 0);
        bad(";", 1, 0);
        bad("x", 1, 0);
        bad("limit;", 1, 5);
        bad("limit near 1;", 1, 6);
        bad("limit 1 near 1;", 1, 8);
        bad("limit 1x;", 1, 7);
        bad("share;", 1, 5);
        bad("share of 2;", 1, 6);
        bad("share 1;", 1, 7);
        bad("share 1 2;", 1, 8);
        bad("share 1 of;", 1, 10);
        bad("share 1 of of;", 1, 11);
        bad("window;", 1, 6);
        bad("storm;", 1, 5);
        bad("index;", 1, 5);
        bad("index x;", 1, 6);
        bad("index 1 x;", 1, 8);
        bad("near;", 1, 4);
        bad("near 1;" + (char) 0, 1, 7);
        bad("near 1;" + (char) 255, 1, 7);
        bad("near 1;" + (char) 128, 1, 7);
        bad((char) ('n' + 128) + "ear 1;", 1, 0);
        bad("near 1" + (char) (';' + 128), 1, 6);
        bad("near " + (char) ('1' + 128) + ";", 1, 5);
        bad("near" + (char) (' ' + 128) + "1;", 1, 4);
    }

    private static void textEndsTooEarly() {
        Check.sentence("1 .. (at the length, if the text ends too early)");
        for (String text : new String[] {"limit", "limit ", "limit   ", "limit 1", "limit 1  ", "share", "share 1",
            "share 1 ", "share 1 of", "share 1 of  ", "share 1 of 2", "share 1 of 2 ", "window", "window 2", "storm",
            "storm 1", "index", "index 1", "index 1 ", "index 1 2", "near", "near 1", "near 1;near 2", "near 1;near"}) {
            bad(text, 1, text.length());
        }
        bad(" ".repeat(293) + "limit 1", 1, 300);
        NeedleHouse house = new NeedleHouse();
        Check.feed(house, "limit 1;near 1;".getBytes());
        Check.due("the text has n bytes, whatever stands behind", -9, house.rule(7));
        Check.due("the text has n bytes, whatever stands behind", 7, house.fault());
        Check.feed(house, "limit 12;".getBytes());
        Check.due("an N that the end cuts", -9, house.rule(7));
        Check.due("an N that the end cuts", 7, house.fault());
        good("near 1;", 1);
    }

    private static void numberAbove10000() {
        Check.sentence("2 an N above 10,000");
        for (String number : new String[] {"10001", "10002", "99999", "100000", "2147483647", "2147483648", "4294967296",
            "4294967297", "18446744073709551616", "18446744073709551617", "9".repeat(280)}) {
            bad("limit " + number + ";", 2, 6);
            bad("index 1 " + number + ";", 2, 8);
        }
        bad("near 10001;", 2, 5);
        bad("storm 10001;", 2, 6);
        bad("window 10001;", 2, 7);
        bad("share 10001 of 2;", 2, 6);
        bad("share 1 of 10001;", 2, 11);
        bad("index 10001;", 2, 6);
        good("limit 10000;near 10000;storm 10000;index 10000;share 10000 of 10000;", 5);
    }

    private static void secondNumberOfShare() {
        Check.sentence("2 .. the second N of share 0, or below the first");
        bad("share 0 of 0;", 2, 11);
        bad("share 1 of 0;", 2, 11);
        bad("share 2 of 1;", 2, 11);
        bad("share 10000 of 9999;", 2, 15);
        good("share 0 of 1;", 1);
        good("share 1 of 1;", 1);
        good("share 1 of 2;", 1);
        good("share 9999 of 10000;", 1);
        good("share 10000 of 10000;", 1);
    }

    private static void windowNot2To60() {
        Check.sentence("2 .. a window that is not 2 to 60");
        for (int wrong : new int[] {0, 1, 61, 100, 10000}) {
            bad("window " + wrong + ";", 2, 7);
        }
        for (int window : new int[] {2, 3, 59, 60}) {
            good("window " + window + ";", 1);
            NeedleHouse house = new NeedleHouse();
            Check.rule(house, "window " + window + ";");
            house.lost(0, 0, 300);
            Check.due("WINDOWS of " + window, 300 / window, house.count(1));
        }
    }

    private static void numberOfIndexNotAbove() {
        Check.sentence("2 .. an N of index not above the one ahead");
        bad("index 0 0;", 2, 8);
        bad("index 5 5;", 2, 8);
        bad("index 5 4;", 2, 8);
        bad("index 5 0;", 2, 8);
        bad("index 1 2 2;", 2, 10);
        bad("index 1 5 3;", 2, 10);
        bad("index 10000 10000;", 2, 12);
        bad("index 0 1 2 3 4 5 6 7 7;", 2, 22);
        good("index 0 1;", 1);
        good("index 9999 10000;", 1);
        good("index 5;index 4;", 2);
    }

    private static void thirteenthClause() {
        Check.sentence("3 a 13th CLAUSE");
        for (String word : new String[] {"limit 1;", "near 1;", "share 1 of 1;", "window 2;", "storm 1;", "index 1;"}) {
            bad(TWELVE + word, 3, 72);
            good(TWELVE.substring(6) + word, 12);
        }
        bad(TWELVE + TWELVE, 3, 72);
        bad(TWELVE + "near", 3, 72);
    }

    private static void tenthNumberOfIndex() {
        Check.sentence("3 .. or a 10th N of index");
        good("index 0 1 2 3 4 5 6 7 8;", 1);
        bad("index 0 1 2 3 4 5 6 7 8 9;", 3, 24);
        bad("index 0 1 2 3 4 5 6 7 8 9 10 11;", 3, 24);
        bad("near 1;index 0 1 2 3 4 5 6 7 8 10000", 3, 31);
        Check.due("the ninth counts", 9, house("window 2;index 0 1 2 3 4 5 6 7 8;", row(0, 8)).index(0));
        Check.due("the ninth counts", 8, house("window 2;index 0 1 2 3 4 5 6 7 8;", row(0, 7)).index(0));
    }

    private static void ofOneTheLeast() {
        Check.sentence("of one the least");
        bad("index 0 1 2 3 4 5 6 7 8 8;", 2, 24);
        bad("index 0 1 2 3 4 5 6 7 8 0;", 2, 24);
        bad("index 0 1 2 3 4 5 6 7 8 10001;", 2, 24);
        bad(TWELVE + "x", 1, 72);
        bad(TWELVE + "nearer 1;", 1, 72);
        bad(TWELVE + "5", 1, 72);
        bad(TWELVE + ";", 1, 72);
        bad("limit 1 10001;", 1, 8);
        bad("share 1 10001;", 1, 8);
        bad("10001", 1, 0);
    }

    private static void feedOfTwentyBytes() {
        Check.sentence("Promise 15: Twenty bytes come on the TAPE: how many there are");
        NeedleHouse house = new NeedleHouse();
        for (int i = 1; i <= 15; i++) {
            Check.due("feed " + i, 20 * i, house.feed(LEAST, -1, 0, 1, GREATEST));
            Check.due("bytes", 20 * i, house.count(4));
        }
    }

    private static void feedHighestFirst() {
        Check.sentence("Promise 15: of each number the highest first");
        String text = "limit 123; near 456;";
        for (int place = 0; place < 20; place++) {
            byte[] bytes = text.getBytes(StandardCharsets.ISO_8859_1);
            bytes[place] = (byte) 0x80;
            int[] words = new int[5];
            for (int i = 0; i < 20; i++) {
                words[i / 4] |= (bytes[i] & 255) << 8 * (3 - i % 4);
            }
            NeedleHouse house = new NeedleHouse();
            house.feed(words[0], words[1], words[2], words[3], words[4]);
            Check.due("a wrong byte at " + place, -9, house.rule(20));
            // a WORD that it cuts can't stand there from its first letter on
            int due = place < 5 ? 0 : place >= 11 && place < 15 ? 11 : place;
            Check.due("its place", due, house.fault());
        }
        NeedleHouse house = new NeedleHouse();
        house.feed(0x6C696D69, 0x74203132, 0x333B206E, 0x65617220, 0x3435363B);
        Check.due("all good", 2, house.rule(20));
    }

    private static void feedBeyond300() {
        Check.sentence("Promise 15: NONE, doing nothing, if there would be more than 300.");
        int blanks = 0x20202020;
        Twins.refused("behind 300", NONE, Pasts::full, house -> house.feed(blanks, blanks, blanks, blanks, blanks));
        Twins.refused("behind 300", NONE, Pasts::full, house -> house.feed(LEAST, -1, 0, 1, GREATEST));
        NeedleHouse house = new NeedleHouse();
        for (int i = 0; i < 14; i++) {
            house.feed(blanks, blanks, blanks, blanks, blanks);
        }
        Check.due("just 300", 300, house.feed(blanks, blanks, blanks, blanks, blanks));
        Check.due("more", NONE, house.feed(blanks, blanks, blanks, blanks, blanks));
        Check.due("all of them are a RULE", 0, house.rule(300));
        Check.due("room again", 20, house.feed(0, 0, 0, 0, 0));
    }

    private static void ruleOfTheFirstBytes() {
        Check.sentence("Promise 16: The first n bytes of the TAPE .. are the RULE");
        String text = "near 1;limit 3;     ";
        int[] want = {0, -9, -9, -9, -9, -9, -9, 1, -9, -9, -9, -9, -9, -9, -9, 2, 2, 2, 2, 2, 2};
        for (int n = 0; n <= 20; n++) {
            NeedleHouse house = new NeedleHouse();
            Check.feed(house, text.getBytes());
            Check.due("the first " + n, want[n], house.rule(n));
            Check.due("CLAUSES", Math.max(want[n], 0), house.count(3));
        }
        NeedleHouse house = new NeedleHouse();
        Check.feed(house, Pasts.fullText().getBytes());
        Check.due("all 300", 12, house.rule(300));
        house.lost(0, 0, 300);
        Check.due("the last window of them", 100, house.count(1));
    }

    private static void ruleEmptiesTheTape() {
        Check.sentence("Promise 16: the TAPE (empty then)");
        for (String text : new String[] {"near 1;", "x", "window 1;", "", TWELVE + "near1;"}) {
            NeedleHouse house = new NeedleHouse();
            Check.feed(house, (text + " ".repeat(20) + "limit 1;").getBytes());
            house.rule(text.length());
            Check.due("behind \"" + text + "\"", 0, house.count(4));
            Check.due("the next text begins anew", 1, Check.rule(house, "near 2;"));
        }
        NeedleHouse house = new NeedleHouse();
        Pasts.full(house);
        Check.due("none of 300", 0, house.rule(0));
        Check.due("empty then", 0, house.count(4));
    }

    private static void ruleTellsItsClauses() {
        Check.sentence("Promise 16: how many CLAUSES");
        StringBuilder text = new StringBuilder();
        for (int clauses = 0; clauses <= 12; clauses++) {
            NeedleHouse house = new NeedleHouse();
            Check.due("clauses", clauses, Check.rule(house, text.toString()));
            Check.due("count(3)", clauses, house.count(3));
            text.append("near ").append(clauses).append(';');
        }
        NeedleHouse house = new NeedleHouse();
        Check.rule(house, "near 1;limit 1;");
        Check.due("an empty RULE takes the place of another", 0, house.rule(0));
        Check.due("an empty RULE takes the place of another", 0, house.count(3));
    }

    private static void ruleWithAFault() {
        Check.sentence("Promise 16: or its FAULT less 10 (the RULE stays)");
        String before = "limit 3;near 9;share 1 of 1;window 2;storm 1;index 2 4;";
        String[][] faults = {{"-9", "limit 60;near 0;share 0 of 9;window 3;storm 9;index 1;x"},
            {"-8", "limit 60;near 0;share 0 of 9;window 3;storm 9;index 1;limit 10001;"},
            {"-7", "limit 60;near 0;share 0 of 9;window 3;storm 9;index 0 1 2 3 5 6 7 8 9 10;"}};
        for (String[] fault : faults) {
            NeedleHouse house = house(before, row(0, 4, LOST, 0, 0, 9, 0, 9), 0, 0, 9);
            Check.due("the FAULT", Integer.parseInt(fault[0]), Check.rule(house, fault[1]));
            Check.due("limit stays", 1, house.jump(0, 0, 0));
            Check.due("near stays", 2, house.joined(0, 1));
            Check.due("share stays", 9, house.range(0, 1));
            Check.due("window stays", 4, house.count(1));
            Check.due("storm stays", 0, house.storm(0, 0));
            Check.due("index stays", 2, house.index(2));
            Check.due("CLAUSES stay", 6, house.count(3));
        }
    }

    private static void ruleOfTooManyBytes() {
        Check.sentence("Promise 16: IllegalArgumentException: n is not 0 to the TAPE's bytes.");
        for (int wrong : new int[] {LEAST, LOST, -1, 21, 300, GREATEST}) {
            Twins.refusedArgument("rule(" + wrong + ") of 20", Pasts::rich, house -> house.rule(wrong));
        }
        for (int wrong : new int[] {-1, 301, GREATEST}) {
            Twins.refusedArgument("rule(" + wrong + ") of 300", Pasts::full, house -> house.rule(wrong));
        }
        for (int wrong : new int[] {-1, 1, 20}) {
            Twins.refusedArgument("rule(" + wrong + ") of none", Pasts::none, house -> house.rule(wrong));
        }
        Check.due("rule(0) of none", 0, new NeedleHouse().rule(0));
    }

    private static void faultOfTheLatestRule() {
        Check.sentence("Promise 17: The place of the FAULT of the latest rule()");
        NeedleHouse house = new NeedleHouse();
        Check.rule(house, "x");
        Check.due("the first byte", 0, house.fault());
        Check.rule(house, " ".repeat(299) + "x");
        Check.due("the last byte", 299, house.fault());
        Check.rule(house, " ".repeat(295) + "limit");
        Check.due("the greatest length", 300, house.fault());
        Check.due("asked again", 300, house.fault());
        Check.rule(house, "near 10001;");
        Check.due("the latest", 5, house.fault());
        Twins.refused("asked", 7, Pasts::rich, one -> one.fault());
    }

    private static void noFault() {
        Check.sentence("Promise 17: NONE without.");
        NeedleHouse house = new NeedleHouse();
        Check.due("no rule() yet", NONE, house.fault());
        house.feed(0, 0, 0, 0, 0);
        Check.due("no rule() yet", NONE, house.fault());
        house.rule(1);
        Check.due("a FAULT", 0, house.fault());
        house.rule(0);
        Check.due("none in the latest", NONE, house.fault());
    }
}
