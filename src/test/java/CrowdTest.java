import java.util.Random;

/** Promises 16 to 18, 24 and 25 where they are hard: twelve wants at one place or two, against Model. */
public final class CrowdTest {
    private static final Random CHANCE = new Random(20261118);

    private CrowdTest() {
    }

    public static void main(String[] args) {
        for (int run = 0; run < 500; run++) {
            crowd(run);
        }
        fullest();
        Checks.end();
    }

    private static String coastText(int longest) {
        StringBuilder text = new StringBuilder();
        text.append("place 3 ").append(CHANCE.nextInt(60)).append(' ').append(CHANCE.nextInt(20)).append(" 9;");
        text.append("place 7 ").append(CHANCE.nextInt(40)).append(' ').append(CHANCE.nextInt(20)).append(" 0;");
        int second = CHANCE.nextInt(3);
        for (int i = 0; i < 12; i++) {
            text.append("want ").append(CHANCE.nextInt(3) < second ? CHANCE.nextInt(2) : 0).append(' ')
                .append(1 + CHANCE.nextInt(longest)).append(' ').append(CHANCE.nextInt(2)).append(' ')
                .append(CHANCE.nextInt(30)).append(';');
        }
        return text.toString();
    }

    private static void crowd(int run) {
        String text = coastText(1 + CHANCE.nextInt(12));
        WickNights x = Checks.on(text);
        Model model = new Model();
        byte[] bytes = (text + " ".repeat(20)).getBytes(java.nio.charset.StandardCharsets.ISO_8859_1);
        java.nio.IntBuffer numbers = java.nio.ByteBuffer.wrap(bytes, 0, bytes.length / 20 * 20).asIntBuffer();
        while (numbers.hasRemaining()) {
            model.feed(numbers.get(), numbers.get(), numbers.get(), numbers.get(), numbers.get());
        }
        model.coast(text.length());
        for (int time = 0; time < 3; time++) {
            int n = 1 + CHANCE.nextInt(24);
            String where = "run " + run + " <" + text + "> by " + n + ": ";
            Checks.due(where + "nights 0", x.nights(0, n), model.nights(0, n));
            Checks.due(where + "nights 1", x.nights(1, n), model.nights(1, n));
            for (int want = 0; want < 12; want++) {
                Checks.due(where + "night of " + want, x.night(want, n), model.night(want, n));
            }
        }
        String where = "run " + run + " <" + text + ">: ";
        Checks.due(where + "worth", x.sales(0), model.sales(0));
        Checks.due(where + "which", x.sales(1), model.sales(1));
        int n = CHANCE.nextInt(100);
        Checks.due(where + "more " + n, x.more(0, n), model.more(0, n));
        if (run % 25 == 0) {
            Checks.due(where + "brings hours", x.brings(0, 1, 0), model.brings(0, 1, 0));
            Checks.due(where + "brings worth", x.brings(0, 1, 1), model.brings(0, 1, 1));
        }
    }

    /** All 144 hours that can be wanted, of good ones alone. */
    private static void fullest() {
        WickNights x = Checks.on("place 0 45 9 99;place 0 99 0 0;leaks 0;" + Checks.times(12, "want 0 12 1 99;"));
        Checks.due("three of twelve", x.sales(0), 3 * 99);
        Checks.due("three of twelve", x.sales(1), 7);
        Checks.due("all twelve", x.more(0, 99), 12 * 99);
        Checks.due("all but one", x.more(0, 98), 11 * 99);
        Checks.due("all 99", x.brings(1, 0, 0), 99);
        Checks.due("their worth", x.brings(1, 0, 1), 12 * 99);
        Checks.work(x, "month;");
        Checks.due("all twelve", x.sales(0), 12 * 99);
        Checks.due("all twelve", x.sales(1), 4095);
    }
}
