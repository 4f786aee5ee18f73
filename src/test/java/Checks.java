import java.nio.charset.StandardCharsets;
import java.util.NoSuchElementException;

/** What the tests share: texts onto the tape, and answers against the ones that are due. */
final class Checks {
    static final String COAST =
        "place 0 10 4 6;place 8 3 0 0;want 0 6 1 20;want 0 5 0 9;want 0 4 0 12;want 1 4 1 30;"
        + "mine 1 20 2;moon 3 1;moon 4 2;leaks 2;shaft 5;";

    private static int wrong = 0;

    private Checks() {
    }

    static void due(String what, long got, long want) {
        if (got != want) {
            wrong++;
            System.out.println(what + " answered " + got + ", due is " + want);
        }
    }

    static void due(String what, boolean got, boolean want) {
        due(what, got ? 1 : 0, want ? 1 : 0);
    }

    static void dueText(String what, String got, String want) {
        if (!got.equals(want)) {
            wrong++;
            System.out.println(what + " answered " + got + ", due is " + want);
        }
    }

    /** Looks at the class itself: a subclass of the one that is due would be another answer. */
    static void dueThrow(String what, Runnable call, Class<? extends RuntimeException> want) {
        Class<?> got = null;
        try {
            call.run();
        } catch (RuntimeException e) {
            got = e.getClass();
        }
        if (got != want) {
            wrong++;
            System.out.println(what + " threw " + got + ", due is " + want);
        }
    }

    static void missing(String what, Runnable call) {
        dueThrow(what, call, NoSuchElementException.class);
    }

    static void illegal(String what, Runnable call) {
        dueThrow(what, call, IllegalArgumentException.class);
    }

    static void end() {
        System.out.println(wrong == 0 ? "all answers are as due" : wrong + " answers are not as due");
        if (wrong != 0) {
            System.exit(1);
        }
    }

    /** Feeds a text, blanks behind it: its length. */
    static int feed(WickNights x, String text) {
        byte[] bytes = text.getBytes(StandardCharsets.ISO_8859_1);
        for (int from = 0; from < bytes.length; from += 20) {
            int[] numbers = new int[5];
            for (int i = 0; i < 20; i++) {
                int next = from + i < bytes.length ? bytes[from + i] & 255 : 32;
                numbers[i / 4] = numbers[i / 4] << 8 | next;
            }
            x.feed(numbers[0], numbers[1], numbers[2], numbers[3], numbers[4]);
        }
        return bytes.length;
    }

    static int coast(WickNights x, String text) {
        return x.coast(feed(x, text));
    }

    static int law(WickNights x, int which, String text) {
        return x.law(which, feed(x, text));
    }

    static int work(WickNights x, String text) {
        return x.work(feed(x, text));
    }

    static int book(WickNights x, String text) {
        return x.book(feed(x, text));
    }

    static WickNights on(String text) {
        WickNights x = new WickNights();
        if (coast(x, text) < 0) {
            due("the coast " + text, x.fault(), WickNights.NONE);
        }
        return x;
    }

    static String times(int many, String text) {
        return text.repeat(many);
    }
}
