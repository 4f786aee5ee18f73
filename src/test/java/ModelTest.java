import java.lang.reflect.InvocationTargetException;
import java.lang.reflect.Method;
import java.util.ArrayList;
import java.util.Comparator;
import java.util.List;
import java.util.NoSuchElementException;
import java.util.Random;

/**
 * Runs of calls by chance on the class and on Model, answer against answer. Also looks at where an exception is
 * thrown: the machine itself may throw none in the class.
 */
public final class ModelTest {
    private static final int RUNS = 1000;
    private static final int CALLS = 500;

    private final Random chance;
    private final int run;
    private final WickNights x = new WickNights();
    private final Model model = new Model();
    private final List<Method> asks = new ArrayList<>();
    private final StringBuilder story = new StringBuilder();

    private ModelTest(int run) {
        this.run = run;
        chance = new Random(run * 7919L + 1);
        for (Method method : WickNights.class.getDeclaredMethods()) {
            if (java.lang.reflect.Modifier.isPublic(method.getModifiers())) {
                asks.add(method);
            }
        }
        asks.sort(Comparator.comparing(Method::getName));
    }

    public static void main(String[] args) {
        for (int run = 0; run < RUNS; run++) {
            if (!new ModelTest(run).runsAlike()) {
                System.exit(1);
            }
        }
        System.out.println("all answers are as the model's");
    }

    private boolean runsAlike() {
        int calls = text("coast", coastText(false));
        while (calls > 0 && calls < CALLS) {
            int many = next();
            if (many == 0) {
                return false;
            }
            calls += many;
        }
        return calls > 0;
    }

    /** One more call or text: how many calls it took; 0 if an answer is not the model's. */
    private int next() {
        int kind = chance.nextInt(100);
        if (kind < 2) {
            return text("coast", coastText(chance.nextInt(3) == 0));
        }
        if (kind < 6) {
            return text(chance.nextBoolean() ? "law0" : "law1", lawText());
        }
        if (kind < 18) {
            return text("work", workText());
        }
        if (kind < 22) {
            return text("book", bookText());
        }
        Method method = asks.get(chance.nextInt(asks.size()));
        Object[] given = new Object[method.getParameterCount()];
        for (int i = 0; i < given.length; i++) {
            given[i] = argument(method.getName(), i);
        }
        if (method.getName().equals("coast") || method.getName().equals("undo") && chance.nextInt(3) > 0) {
            return text("work", workText());
        }
        return answersAlike(method, given) ? 1 : 0;
    }

    private int argument(String method, int i) {
        switch (chance.nextInt(12)) {
            case 0:
                return chance.nextInt();
            case 1:
                return chance.nextInt(40) - 5;
            case 2:
                return new int[] {-1, 9999, 10000, 999, 1000, 99, 100, 16, 17, 150, 151, 60, 61, Integer.MIN_VALUE,
                    Integer.MAX_VALUE}[chance.nextInt(15)];
            default:
                break;
        }
        int most = 6;
        switch (method) {
            case "option":
            case "late":
            case "now":
                most = new int[] {60, 20, 20, 17, 60, 7, 2}[i];
                break;
            case "looks":
                most = i < 2 ? 41 : 2;
                break;
            case "nights":
            case "night":
                most = i == 0 ? 8 : 25;
                break;
            case "gets":
                most = i == 0 ? 4 : 30;
                break;
            case "sellers":
                most = new int[] {4, 21, 3}[i];
                break;
            case "corner":
            case "more":
                most = i == 0 ? 4 : 101;
                break;
            case "arrives":
                most = new int[] {4, 4, 1000, 2}[i];
                break;
            case "clouds":
                most = new int[] {9999, 17, 10000, 61, 3}[i];
                break;
            case "span":
                most = new int[] {9999, 41, 17, 10000, 61, 3}[i];
                break;
            case "moons":
            case "dark":
            case "bright":
            case "darks":
                most = 10000;
                break;
            case "misses":
                most = i == 0 ? 4 : 64;
                break;
            case "seam":
                most = new int[] {2, 5, 10, 2}[i];
                break;
            case "ahead":
                most = new int[] {4, 61, 2}[i];
                break;
            case "told":
                most = 10;
                break;
            case "want":
                most = i == 0 ? 10 : 6;
                break;
            case "law":
            case "work":
            case "book":
                most = 3;
                break;
            default:
                break;
        }
        return chance.nextInt(most);
    }

    private boolean answersAlike(Method method, Object[] given) {
        Object got = answer(method, x, given);
        Object due;
        try {
            Method other = Model.class.getDeclaredMethod(method.getName(), method.getParameterTypes());
            due = answer(other, model, given);
        } catch (NoSuchMethodException e) {
            due = "no such method in the model";
        }
        story.append(method.getName()).append(java.util.Arrays.toString(given)).append(" = ").append(got).append('\n');
        if (got.equals(due)) {
            return true;
        }
        System.out.println(story);
        System.out.println("run " + run + ": due is " + due);
        return false;
    }

    private static Object answer(Method method, Object object, Object[] given) {
        try {
            return method.invoke(object, given);
        } catch (IllegalAccessException e) {
            return "no access";
        } catch (InvocationTargetException e) {
            Throwable thrown = e.getCause();
            String thrower = thrown.getStackTrace().length == 0 ? "?" : thrown.getStackTrace()[0].getMethodName();
            boolean own = thrown.getClass() == IllegalArgumentException.class
                || thrown.getClass() == NoSuchElementException.class;
            if (object instanceof WickNights && (!own || !thrower.startsWith("need"))) {
                return "the machine threw " + thrown + " in " + thrower;
            }
            return thrown.getClass().getName();
        }
    }

    private Method named(String name) {
        for (Method method : asks) {
            if (method.getName().equals(name)) {
                return method;
            }
        }
        throw new IllegalStateException(name);
    }

    /** Feeds a text to both and has it read; looks at the fault, the tape and what is told then. */
    private int text(String which, String text) {
        story.append(which).append(" <").append(text).append(">\n");
        int calls = 0;
        int n = text.length();
        String padded = text + " ".repeat((20 - n % 20) % 20);
        for (int from = 0; from < padded.length(); from += 20) {
            Object[] fed = new Object[5];
            for (int i = 0; i < 5; i++) {
                int number = 0;
                for (int j = 0; j < 4; j++) {
                    number = number << 8 | padded.charAt(from + 4 * i + j);
                }
                fed[i] = number;
            }
            calls++;
            if (!answersAlike(named("feed"), fed)) {
                return 0;
            }
        }
        if (chance.nextInt(30) == 0) {
            n += chance.nextInt(9) - 4;
        }
        Object[] given = which.startsWith("law")
            ? new Object[] {which.equals("law0") ? 0 : 1, n} : new Object[] {n};
        boolean alike = answersAlike(named(which.replaceAll("[01]", "")), given)
            && answersAlike(named("fault"), new Object[0]) && answersAlike(named("count"), new Object[] {1});
        for (int what = 0; what <= 9 && alike && which.equals("work"); what++) {
            alike = answersAlike(named("told"), new Object[] {what});
        }
        return alike ? calls + 3 : 0;
    }

    // ---- texts by chance ----

    private int to(int most) {
        return chance.nextInt(most + 1);
    }

    private String blanks() {
        return chance.nextInt(12) == 0 ? " ".repeat(to(3)) : "";
    }

    /** Cuts, puts in or changes a sign now and then. */
    private String spoilt(String text, int oneOf) {
        if (chance.nextInt(oneOf) != 0) {
            return text;
        }
        int at = to(text.length());
        int kind = chance.nextInt(4);
        String signs = "0159 ;[](),+-*/azmA\u00e9";
        String sign = "" + signs.charAt(chance.nextInt(signs.length()));
        if (kind == 0) {
            return text.substring(0, at);
        }
        if (kind == 1) {
            return text.substring(0, at) + sign + text.substring(at);
        }
        if (kind == 2) {
            return at < text.length() ? text.substring(0, at) + text.substring(at + 1) : text;
        }
        return at < text.length() ? text.substring(0, at) + sign + text.substring(at + 1) : text;
    }

    private String coastText(boolean wild) {
        StringBuilder text = new StringBuilder();
        int places = wild ? to(7) : 1 + to(3);
        int few = chance.nextBoolean() ? 12 : 60;
        for (int i = 0; i < places; i++) {
            text.append(blanks()).append("place ").append(to(chance.nextBoolean() ? 40 : 3)).append(' ')
                .append(to(few)).append(' ').append(to(few / 2)).append(' ').append(to(20)).append(blanks())
                .append(';');
        }
        int wants = wild ? to(13) : to(8);
        for (int i = 0; i < wants; i++) {
            text.append("want ").append(to(Math.max(0, places - 1))).append(' ').append(1 + to(11)).append(' ')
                .append(to(1)).append(' ').append(to(chance.nextBoolean() ? 99 : 9)).append(';');
        }
        for (int i = to(wild ? 4 : 2); i > 0; i--) {
            text.append("mine ").append(to(Math.max(0, places - 1))).append(' ').append(to(60)).append(' ')
                .append(to(chance.nextInt(3) == 0 ? 11 : 2)).append(';');
        }
        for (int i = to(wild ? 4 : 3); i > 0; i--) {
            int cycle = 1 + to(chance.nextBoolean() ? 29 : 5);
            text.append("moon ").append(cycle).append(' ').append(to(cycle - 1)).append(blanks()).append(';');
        }
        for (int i = to(2); i > 0; i--) {
            text.append(chance.nextBoolean() ? "leaks " : "shaft ").append(to(8)).append(';');
        }
        String whole = text.toString();
        return spoilt(whole.length() > 600 ? whole.substring(0, 600) : whole, wild ? 3 : 1000);
    }

    private String lawText() {
        String text = sum(0);
        while (text.length() > 150) {
            text = sum(0);
        }
        return spoilt(text, 4);
    }

    private String sum(int depth) {
        String text = product(depth);
        for (int i = chance.nextInt(5) - 2; i > 0; i--) {
            text += blanks() + (chance.nextBoolean() ? "+" : "-") + product(depth);
        }
        return text;
    }

    private String product(int depth) {
        String text = unit(depth);
        for (int i = chance.nextInt(5) - 2; i > 0; i--) {
            text += (chance.nextBoolean() ? "*" : "/") + blanks() + unit(depth);
        }
        return text;
    }

    private String unit(int depth) {
        int kind = chance.nextInt(depth > 7 ? 8 : 12);
        if (kind < 2) {
            return blanks() + to(chance.nextBoolean() ? 999 : 9);
        }
        if (kind < 8) {
            return blanks() + new String[] {"hours", "far", "good", "shafts", "left", "month", "year", "hours", "shafts"
            }[chance.nextInt(9)];
        }
        if (kind < 10) {
            return "(" + sum(depth + 1) + blanks() + ")";
        }
        return (kind == 10 ? "least" : "most") + blanks() + "[" + sum(depth + 1) + "," + sum(depth + 1) + "]";
    }

    private String workText() {
        StringBuilder text = new StringBuilder();
        while (text.length() < 110 && chance.nextInt(6) > 0) {
            text.append(blanks()).append(step(0));
        }
        String whole = text.toString();
        return spoilt(whole.length() > 150 ? whole.substring(0, 150) : whole, 6);
    }

    private String step(int depth) {
        int last = chance.nextInt(20) == 0 ? 6 : Math.max(0, model.told(0) - 1);
        switch (chance.nextInt(depth > 5 ? 9 : 11)) {
            case 0:
            case 1: {
                int from = to(last);
                return "carry " + from + " " + (chance.nextInt(20) == 0 ? from : (from + 1 + to(Math.max(0, last - 1))) % (last + 1)) + " " + (1 + to(20)) + " "
                    + to(1) + ";";
            }
            case 2:
            case 3:
            case 4:
                return "sell " + to(chance.nextInt(20) == 0 ? 12 : Math.max(0, model.told(1) - 1)) + ";";
            case 5:
                return "water " + to(last) + " " + (1 + to(8)) + ";";
            case 6:
            case 7:
                return "dig " + to(chance.nextInt(20) == 0 ? 3 : Math.max(0, model.told(2) - 1)) + " " + (1 + to(8)) + ";";
            case 8:
                return "month;";
            default: {
                StringBuilder text = new StringBuilder("again " + to(20) + "[");
                for (int i = to(2); i > 0; i--) {
                    text.append(step(depth + 1));
                }
                return text + "];";
            }
        }
    }

    private String bookText() {
        StringBuilder text = new StringBuilder();
        List<Integer> lines = new ArrayList<>();
        for (int i = to(4); i > 0; i--) {
            int place = to(chance.nextInt(20) == 0 ? 6 : Math.max(0, model.told(0) - 1));
            if (!lines.contains(place) || chance.nextInt(9) == 0) {
                lines.add(place);
                text.append(blanks()).append(place).append(' ').append(to(chance.nextInt(5) == 0 ? 99 : 3)).append(';');
            }
        }
        return spoilt(text.toString(), 6);
    }
}
