import java.util.NoSuchElementException;

/** What all tests use: answers that are due, calls that throw, and texts for the tape. */
final class Checks {
    static final String THROWN = "NoSuchElementException";
    private static int right = 0;
    private static int wrong = 0;

    interface Call {
        int answer();
    }

    private Checks() {
    }

    static void due(String call, int got, int want) {
        tell(call, Integer.toString(got), Integer.toString(want));
    }

    static void due(String call, boolean got, boolean want) {
        tell(call, Boolean.toString(got), Boolean.toString(want));
    }

    static void dueThrown(String call, Call made) {
        tell(call, outcome(made), THROWN);
    }

    /** The answer as a text, or the name of the exception that came instead. */
    static String outcome(Call made) {
        try {
            return Integer.toString(made.answer());
        } catch (NoSuchElementException e) {
            return e.getClass() == NoSuchElementException.class ? THROWN : e.toString();
        } catch (RuntimeException e) {
            return e.toString();
        }
    }

    static void tell(String call, String got, String want) {
        if (got.equals(want)) {
            right++;
        } else {
            wrong++;
            System.out.println(call + " answered " + got + ", due is " + want);
        }
    }

    static void end() {
        System.out.println(right + " answers as due, " + wrong + " not");
        if (wrong != 0 || right == 0) {
            System.exit(1);
        }
    }

    /** Eight signs as a long, the first one highest; behind the text's end there are zeros. */
    static long packed(String text, int from) {
        long bytes = 0;
        for (int i = from; i < from + 8; i++) {
            bytes = bytes << 8 | (i < text.length() ? text.charAt(i) & 255 : 0);
        }
        return bytes;
    }

    static int feed(PanelHouse house, String text) {
        int there = house.feed(0, 0, 0);
        for (int i = 0; i < text.length(); i += 24) {
            there = house.feed(packed(text, i), packed(text, i + 8), packed(text, i + 16));
        }
        return there;
    }

    static int read(PanelHouse house, String text) {
        feed(house, text);
        return house.text();
    }

    static String times(String part, int n) {
        return part.repeat(n);
    }
}
