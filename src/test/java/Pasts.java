/** Pasts that tests of refused calls begin with, some 160 calls at most. */
final class Pasts {
    private static final int LOST = Check.LOST;

    private Pasts() {
    }

    static void none(NeedleHouse house) {
    }

    /** Something of everything, and room for more of everything. */
    static void rich(NeedleHouse house) {
        Check.rule(house, "window 3;near 3;limit 20;index 3 9 25;storm 1;share 1 of 2;");
        Check.row(house, 0, 0, 0, 5, 40, 42, LOST, 50, 51, 80, 82, 90, 91, 60);
        Check.row(house, 1, 0, 1, 6, 9, 40, 44, 50, 49, 60, LOST, 95);
        Check.row(house, 1, 1, -7, LOST, -9, -30, -29, -25, -1);
        Check.row(house, 0, 2, 30000, -30000, 12, 13);
        Check.mean(house, 0, 1, 700);
        house.end(2);
        Check.mean(house, 0, 5, 733);
        Check.mean(house, 0, 9, 690);
        Check.mean(house, 1, 3, -400);
        house.train(6, 2);
        house.publish();
        house.shift(1, 1, 3, 6);
        Check.mean(house, 2, 2, 1000);
        Check.rule(house, "near 9;x");
        house.end(17);
        Check.feed(house, "near 9; window 2;   ".getBytes());
    }

    /** As much of everything as there can be. */
    static void full(NeedleHouse house) {
        for (int trace = 0; trace < 3; trace++) {
            house.lost(0, trace, 280);
            for (int i = 0; i < 20; i++) {
                house.read(0, trace, 60 * trace * (i % 3) + i * i);
                Check.mean(house, trace, 280 + i, 500 - 7 * i);
            }
            house.lost(1, trace, 299);
            house.read(1, trace, 29000);
        }
        for (int i = 0; i < 10; i++) {
            house.train(282 + i, 1);
        }
        house.publish();
        Check.feed(house, fullText().getBytes());
    }

    /** A good RULE of 300 bytes and 12 CLAUSES. */
    static String fullText() {
        String clauses = "window 2;share 0 of 1;limit 1;near 2;storm 1;index 1 2 3 4 5 6 7 8 9;"
                + "window 3;share 1 of 9;limit 2;near 1;storm 2;index 1 2 30 40 50 60 70 80 90;";
        return clauses + " ".repeat(300 - clauses.length());
    }
}
