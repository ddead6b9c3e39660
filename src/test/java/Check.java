import java.nio.charset.StandardCharsets;
import java.util.Arrays;

/** What the tests share: answers that are due, exceptions that are due, and texts for the TAPE. */
final class Check {
    interface Call {
        int answer();
    }

    static final int NONE = NeedleHouse.NONE;
    static final int LOST = NeedleHouse.LOST;

    private static int wrong = 0;
    private static int asked = 0;
    private static String sentence = "";

    private Check() {
    }

    /** The sentence of the document that is tested from here on: told with each answer that is wrong. */
    static void sentence(String words) {
        sentence = "[" + words + "] ";
    }

    static void due(String what, long want, long got) {
        asked++;
        if (got != want) {
            wrong++;
            System.out.println(sentence + what + " answered " + got + ", due is " + want);
        }
    }

    /** Answers or the names of exceptions, as Twins has them. */
    static void alike(String what, String want, String got) {
        asked++;
        if (!got.equals(want)) {
            wrong++;
            System.out.println(sentence + what + ": " + got + ", due is " + want);
        }
    }

    static void dueIndex(String what, Call call) {
        dueThrown(what, IndexOutOfBoundsException.class, call);
    }

    static void dueArgument(String what, Call call) {
        dueThrown(what, IllegalArgumentException.class, call);
    }

    private static void dueThrown(String what, Class<?> want, Call call) {
        asked++;
        String got;
        try {
            got = "answered " + call.answer();
        } catch (RuntimeException e) {
            if (e.getClass() == want) {
                return;
            }
            got = "threw " + e;
        }
        wrong++;
        System.out.println(sentence + what + " " + got + ", due is " + want.getSimpleName());
    }

    /** To be called last: the process ends with 1 if an answer was wrong. */
    static void finish() {
        System.out.println(asked - wrong + " of " + asked + " answers as due");
        if (wrong != 0) {
            System.exit(1);
        }
    }

    static void feed(NeedleHouse house, byte[] text) {
        byte[] padded = Arrays.copyOf(text, (text.length + 19) / 20 * 20);
        for (int from = 0; from < padded.length; from += 20) {
            house.feed(word(padded, from), word(padded, from + 4), word(padded, from + 8),
                    word(padded, from + 12), word(padded, from + 16));
        }
    }

    private static int word(byte[] bytes, int from) {
        int word = 0;
        for (int i = 0; i < 4; i++) {
            word = word << 8 | bytes[from + i] & 255;
        }
        return word;
    }

    static int rule(NeedleHouse house, String text) {
        byte[] bytes = text.getBytes(StandardCharsets.ISO_8859_1);
        feed(house, bytes);
        return house.rule(bytes.length);
    }

    /** Readings one behind another; LOST stands for a lost one. */
    static void row(NeedleHouse house, int set, int trace, int... readings) {
        for (int reading : readings) {
            if (reading == LOST) {
                house.lost(set, trace, 1);
            } else {
                house.read(set, trace, reading);
            }
        }
    }

    /** Four like positions, so that MEAN is this one. */
    static int mean(NeedleHouse house, int trace, int time, int mean) {
        return house.measure(trace, time, mean, mean, mean, mean);
    }
}
