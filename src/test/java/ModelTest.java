import java.util.ArrayDeque;
import java.util.Arrays;
import java.util.Deque;
import java.util.Random;

/** Runs of up to 512 random calls, the same ones each time, whose answers must be those of the Model. */
public final class ModelTest {
    private static final int RUNS = 400;
    private static final int LINE_RUNS = 100;
    private static final int CALLS = 512;
    private static final int[] EDGES = {Integer.MIN_VALUE, -100001, -60001, -30001, -1, 0, 1, 2, 3, 5, 6, 20, 299,
        300, 301, 1001, 30001, 60001, 100001, Integer.MAX_VALUE, NeedleHouse.LOST};

    private final Random random;
    private final NeedleHouse house = new NeedleHouse();
    private final Model model = new Model();
    private final Deque<String> latest = new ArrayDeque<>();
    private final int[] level = new int[3];
    private final int steep;
    private final int wrongs;
    private int nextMeasure = 0;
    // of the house, those that feed a text too: what comes behind the 512th is free
    private int calls = 0;

    private ModelTest(long seed) {
        random = new Random(seed);
        steep = new int[] {1, 4, 30, 400}[random.nextInt(4)];
        wrongs = random.nextInt(4) == 0 ? 10 : 60;
    }

    public static void main(String[] args) {
        for (int run = 0; run < RUNS; run++) {
            new ModelTest(run).go(run);
        }
        for (int run = 0; run < LINE_RUNS; run++) {
            new ModelTest(run).lines(run);
        }
        Check.finish();
    }

    private void go(int run) {
        int mostlyReadings = 60 + random.nextInt(300);
        for (int i = 0; calls < CALLS; i++) {
            int kind = i < mostlyReadings && random.nextInt(10) < 8 ? random.nextInt(12) : random.nextInt(46);
            int[] call = call(kind);
            String shown = Arrays.toString(call);
            latest.add(shown);
            String want = answer(call, false);
            String got = answer(call, true);
            calls++;
            if (!want.equals(got)) {
                Check.due("run " + run + ", call " + i + " " + shown + " got " + got + " for " + want, 0, 1);
                System.out.println(String.join(" ", latest));
                return;
            }
            Check.due("a call", 0, 0);
        }
    }

    /** MEASURES that lie beside long straight lines, so that PIECES have many POINTS. */
    private void lines(int run) {
        double slope = (random.nextDouble() - 0.5) * steep;
        int noise = 1 + random.nextInt(6);
        int time = random.nextInt(4);
        int past = 0;
        for (int i = 0; i < 20; i++) {
            same(run, 1, 0, 0, time - past + 1);
            same(run, 0, 1, 0, 0);
            same(run, 0, 0, 0, 0);
            past = time + 2;
            if (random.nextInt(4) == 0) {
                same(run, 6, random.nextInt(6));
            }
            int mean = (int) (slope * time) + random.nextInt(2 * noise + 1) - noise;
            same(run, 8, 0, time + 1, mean, mean, mean, mean);
            time = past + random.nextInt(9);
        }
        same(run, 9, 0);
        for (int k = 0; k < house.pieces(0); k++) {
            for (int what = 0; what < 4; what++) {
                same(run, 10, 0, k, what);
            }
        }
        for (int asked = 0; asked < 300; asked += 1 + random.nextInt(40)) {
            same(run, 11, 0, asked);
        }
    }

    private void same(int run, int... call) {
        String want = answer(call, false);
        String got = answer(call, true);
        boolean good = want.equals(got);
        Check.due("line run " + run + " " + Arrays.toString(call) + " got " + got + " for " + want, 1, good ? 1 : 0);
    }

    private int some(int bound) {
        return random.nextInt(wrongs) == 0 ? EDGES[random.nextInt(EDGES.length)] : random.nextInt(bound);
    }

    private int reading(int trace) {
        if (random.nextInt(40) == 0) {
            return EDGES[random.nextInt(EDGES.length)];
        }
        level[trace] += random.nextInt(2 * steep + 1) - steep;
        int leap = random.nextInt(12) == 0 ? random.nextInt(200) - 100 : 0;
        return level[trace] + leap + random.nextInt(7);
    }

    /** The method's number and its arguments. */
    private int[] call(int kind) {
        int trace = some(3);
        int set = some(2);
        if (kind < 9) {
            return new int[] {0, set, trace, reading(Math.floorMod(trace, 3))};
        }
        switch (kind) {
            case 9:
                return new int[] {1, set, trace, 1 + some(random.nextInt(8) == 0 ? 100 : 5)};
            case 10:
                return new int[] {8, trace, measureTime(), position(), position(), position(), position()};
            case 11:
                return new int[] {3, set, trace, some(100), some(2 * steep + 1) - steep};
            case 12:
            case 13:
                return new int[] {2, set, trace, some(301)};
            case 14:
            case 15:
                return new int[] {4, set, trace, some(6)};
            case 16:
            case 17:
                return new int[] {5, trace, some(80)};
            case 18:
                return new int[] {6, some(random.nextInt(3) == 0 ? 60 : 6)};
            case 19:
            case 20:
                return new int[] {7, trace, some(12), some(5)};
            default:
                return laterCall(kind, trace);
        }
    }

    private int[] laterCall(int kind, int trace) {
        switch (kind) {
            case 21:
            case 22:
                return new int[] {9, trace};
            case 23:
            case 24:
            case 25:
                return new int[] {10, trace, some(6), some(4)};
            case 26:
            case 27:
                return new int[] {11, trace, some(300)};
            case 28:
            case 29:
                return new int[] {12, trace, some(80)};
            case 30:
            case 31:
                return rule();
            case 32:
                return new int[] {14, some(random.nextInt(2) == 0 ? 301 : 1)};
            case 33:
                return new int[] {15};
            case 34:
                return random.nextInt(3) == 0 ? new int[] {16, some(80), some(4)} : new int[] {15};
            case 35:
            case 36:
                return new int[] {17, trace, some(20)};
            case 37:
            case 38:
                return new int[] {18, some(20)};
            case 39:
                return new int[] {19, some(3), some(2)};
            case 40:
                return new int[] {20, some(12)};
            case 41:
                return new int[] {21};
            case 42:
            case 43:
                return new int[] {22, trace, some(8)};
            case 44:
                return new int[] {23, trace, some(80)};
            default:
                return new int[] {24, some(6)};
        }
    }

    private int measureTime() {
        if (random.nextInt(12) == 0) {
            return some(300);
        }
        nextMeasure += random.nextInt(3);
        return nextMeasure;
    }

    private int position() {
        return random.nextInt(60) == 0 ? some(100001) : 500 + random.nextInt(3 * steep + 12);
    }

    /** Feeds a text to both and answers the call that takes it. */
    private int[] rule() {
        byte[] text = text().getBytes(java.nio.charset.StandardCharsets.ISO_8859_1);
        int feeds = (text.length + 19) / 20;
        if (calls + feeds >= CALLS) {
            return new int[] {15};
        }
        calls += feeds;
        Check.feed(house, text);
        for (int from = 0; from < text.length; from += 20) {
            byte[] bytes = Arrays.copyOf(Arrays.copyOfRange(text, from, Math.min(text.length, from + 20)), 20);
            java.nio.ByteBuffer words = java.nio.ByteBuffer.wrap(bytes);
            model.feed(words.getInt(), words.getInt(), words.getInt(), words.getInt(), words.getInt());
        }
        return new int[] {14, Math.min(text.length, 300)};
    }

    private String text() {
        StringBuilder text = new StringBuilder();
        int clauses = random.nextInt(8) == 0 ? 11 + random.nextInt(4) : random.nextInt(6);
        for (int i = 0; i < clauses; i++) {
            text.append(clause()).append(blanks()).append(';').append(blanks());
        }
        for (int i = 0; i < 3 && random.nextInt(5) == 0 && text.length() > 0; i++) {
            int place = random.nextInt(text.length());
            String signs = " ;0159aeofxN" + (char) 200;
            char sign = signs.charAt(random.nextInt(signs.length()));
            int way = random.nextInt(3);
            if (way == 0) {
                text.setCharAt(place, sign);
            } else if (way == 1) {
                text.insert(place, sign);
            } else {
                text.setLength(place);
            }
        }
        return text.toString();
    }

    private String clause() {
        switch (random.nextInt(6)) {
            case 0:
                return "limit" + number(90);
            case 1:
                return "near" + number(12);
            case 2:
                int of = 1 + random.nextInt(9);
                return "share" + number(of + 1) + blanks() + "of" + blanks() + of;
            case 3:
                return "window" + blanks() + (2 + random.nextInt(random.nextInt(4) == 0 ? 60 : 6));
            case 4:
                return "storm" + number(4);
            default:
                StringBuilder index = new StringBuilder("index");
                int steps = 1 + random.nextInt(random.nextInt(4) == 0 ? 11 : 5);
                int step = random.nextInt(4);
                for (int i = 0; i < steps; i++) {
                    index.append(' ').append(blanks()).append(step);
                    step += random.nextInt(30) == 0 ? 0 : 1 + random.nextInt(2 * steep);
                }
                return index.toString();
        }
    }

    private String number(int bound) {
        return blanks() + (random.nextInt(30) == 0 ? "1000" + random.nextInt(15) : "" + random.nextInt(bound));
    }

    private String blanks() {
        return random.nextInt(3) == 0 ? " ".repeat(random.nextInt(3)) : "";
    }

    private String answer(int[] call, boolean ofHouse) {
        try {
            return "" + (ofHouse ? askHouse(house, call) : askModel(model, call));
        } catch (IllegalArgumentException | IndexOutOfBoundsException e) {
            return e.getClass().getName();
        }
    }

    private static int askHouse(NeedleHouse x, int[] c) {
        switch (c[0]) {
            case 0:
                return x.read(c[1], c[2], c[3]);
            case 1:
                return x.lost(c[1], c[2], c[3]);
            case 2:
                return x.at(c[1], c[2], c[3]);
            case 3:
                return x.shift(c[1], c[2], c[3], c[4]);
            case 4:
                return x.jump(c[1], c[2], c[3]);
            case 5:
                return x.joined(c[1], c[2]);
            case 6:
                return x.end(c[1]);
            case 7:
                return x.told(c[1], c[2], c[3]);
            case 8:
                return x.measure(c[1], c[2], c[3], c[4], c[5], c[6]);
            case 9:
                return x.pieces(c[1]);
            case 10:
                return x.piece(c[1], c[2], c[3]);
            case 11:
                return x.baseline(c[1], c[2]);
            case 12:
                return x.value(c[1], c[2]);
            case 13:
                return x.feed(c[1], c[2], c[3], c[4], c[5]);
            case 14:
                return x.rule(c[1]);
            case 15:
                return x.fault();
            case 16:
                return x.train(c[1], c[2]);
            case 17:
                return x.range(c[1], c[2]);
            case 18:
                return x.index(c[1]);
            case 19:
                return x.storm(c[1], c[2]);
            case 20:
                return x.quiet(c[1]);
            case 21:
                return x.publish();
            case 22:
                return x.changed(c[1], c[2]);
            case 23:
                return x.published(c[1], c[2]);
            default:
                return x.count(c[1]);
        }
    }

    private static int askModel(Model x, int[] c) {
        switch (c[0]) {
            case 0:
                return x.read(c[1], c[2], c[3]);
            case 1:
                return x.lost(c[1], c[2], c[3]);
            case 2:
                return x.at(c[1], c[2], c[3]);
            case 3:
                return x.shift(c[1], c[2], c[3], c[4]);
            case 4:
                return x.jump(c[1], c[2], c[3]);
            case 5:
                return x.joined(c[1], c[2]);
            case 6:
                return x.end(c[1]);
            case 7:
                return x.told(c[1], c[2], c[3]);
            case 8:
                return x.measure(c[1], c[2], c[3], c[4], c[5], c[6]);
            case 9:
                return x.pieces(c[1]);
            case 10:
                return x.piece(c[1], c[2], c[3]);
            case 11:
                return x.baseline(c[1], c[2]);
            case 12:
                return x.value(c[1], c[2]);
            case 13:
                return x.feed(c[1], c[2], c[3], c[4], c[5]);
            case 14:
                return x.rule(c[1]);
            case 15:
                return x.fault();
            case 16:
                return x.train(c[1], c[2]);
            case 17:
                return x.range(c[1], c[2]);
            case 18:
                return x.index(c[1]);
            case 19:
                return x.storm(c[1], c[2]);
            case 20:
                return x.quiet(c[1]);
            case 21:
                return x.publish();
            case 22:
                return x.changed(c[1], c[2]);
            case 23:
                return x.published(c[1], c[2]);
            default:
                return x.count(c[1]);
        }
    }
}
