import java.nio.charset.StandardCharsets;
import java.util.Arrays;

/** What the project's tests share: telling answers that are not as due, and laying a text on the tape. */
final class Check {
    interface Call {
        long answer();
    }

    private int wrong;
    private String heading = "";

    /** What is told ahead of all that isn't as due, till another heading comes. */
    void under(String words) {
        heading = words;
    }

    void due(String what, long got, long want) {
        if (got != want) {
            due(what, Long.toString(got), Long.toString(want));
        }
    }

    void due(String what, String got, String want) {
        if (!got.equals(want)) {
            wrong++;
            System.out.println(heading + what + " answered " + got + ", due is " + want);
        }
    }

    void throwsDue(String what, Class<?> kind, Call call) {
        due(what, outcome(call), kind.getSimpleName());
    }

    /** The answer as a text, or the name of what was thrown. */
    static String outcome(Call call) {
        try {
            return Long.toString(call.answer());
        } catch (RuntimeException e) {
            return e.getClass().getSimpleName();
        }
    }

    void end(String name) {
        System.out.println(wrong == 0 ? name + ": all as due" : name + ": " + wrong + " not as due");
        if (wrong != 0) {
            System.exit(1);
        }
    }

    static void feed(HedgePark park, String text) {
        byte[] bytes = text.getBytes(StandardCharsets.ISO_8859_1);
        byte[] whole = Arrays.copyOf(bytes, (bytes.length + 19) / 20 * 20);
        for (int i = 0; i < whole.length; i += 20) {
            park.feed(fourFrom(whole, i), fourFrom(whole, i + 4), fourFrom(whole, i + 8),
                    fourFrom(whole, i + 12), fourFrom(whole, i + 16));
        }
    }

    private static int fourFrom(byte[] bytes, int at) {
        return (bytes[at] & 255) << 24 | (bytes[at + 1] & 255) << 16 | (bytes[at + 2] & 255) << 8 | bytes[at + 3] & 255;
    }

    static int lay(HedgePark park, String text) {
        feed(park, text);
        return park.park(text.length());
    }

    static HedgePark of(String text) {
        HedgePark park = new HedgePark();
        int lines = lay(park, text);
        if (lines < 0) {
            throw new IllegalStateException("fault " + lines + " at " + park.fault(1) + " in: " + text);
        }
        return park;
    }
}
