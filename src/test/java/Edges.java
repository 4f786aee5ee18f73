import java.io.IOException;
import java.lang.reflect.InvocationTargetException;
import java.lang.reflect.Method;
import java.nio.charset.StandardCharsets;
import java.nio.file.Files;
import java.nio.file.Path;
import java.util.ArrayList;
import java.util.List;
import java.util.NoSuchElementException;
import java.util.regex.Matcher;
import java.util.regex.Pattern;

/**
 * One sentence of the document, and calls at its edges with the answers that are due, a line each:
 *
 * <pre>
 * on "place 0 8 0 0;"              a new object with this coast (each script begins with a new object)
 * work "month;"*3+"sell 0;" = 4    the text is fed and read; "a"*3 is "aaa", #9 the byte 9
 * feed "abc" = 20                  blanks fill the last twenty bytes up
 * 5x can 0 = yes                   five times; a boolean is yes or no
 * place 1 0 = missing              NoSuchElementException; wrong: IllegalArgumentException
 * </pre>
 *
 * The same calls are made on Model, so that it is held to the sentences too.
 */
final class Edges {
    private static final int CALLS_MOST = 512;
    private static final Pattern LINE = Pattern.compile("(?:(\\d+)x )?([a-z]+)( .*)?");
    private static final Pattern TOKEN = Pattern.compile("(?:(?:\"[^\"]*\"(?:\\*\\d+)?|#\\d+)\\+?)+|\\S+");
    private static final Pattern PART = Pattern.compile("\"([^\"]*)\"(?:\\*(\\d+))?|#(\\d+)");

    private static final Path DOC = Path.of("../shared/DOC.md");
    private static final String DOCUMENT = document();

    private final String sentence;
    private final boolean onModel;
    private Object object;
    private int calls;

    private Edges(String sentence, boolean onModel) {
        this.sentence = sentence;
        this.onModel = onModel;
        begin();
    }

    static void edge(String sentence, String script) {
        if (!DOCUMENT.isEmpty() && !DOCUMENT.contains(sentence)) {
            System.out.println("note: not in " + DOC + " any more: " + sentence);
        }
        for (boolean onModel : new boolean[] {false, true}) {
            Edges edges = new Edges(sentence, onModel);
            script.lines().filter(line -> !line.isBlank()).forEach(edges::line);
        }
    }

    /** For a note, no failure: that the document has other words now is no fault of the class. */
    private static String document() {
        try {
            return Files.readString(DOC, StandardCharsets.UTF_8);
        } catch (IOException e) {
            return "";
        }
    }

    private void begin() {
        object = onModel ? new Model() : new WickNights();
        calls = 0;
    }

    private void line(String line) {
        int equals = line.lastIndexOf(" = ");
        Matcher found = LINE.matcher(equals < 0 ? line : line.substring(0, equals));
        if (!found.matches()) {
            tell(line, "can't be read", "a call");
            return;
        }
        List<String> given = tokens(found.group(3) == null ? "" : found.group(3));
        if (found.group(2).equals("on")) {
            begin();
            String answer = callWithText("coast", List.of(), textOf(given.get(0)));
            if (answer.startsWith("-")) {
                tell(line, answer, "a coast");
            }
            return;
        }
        String due = equals < 0 ? "nothing" : line.substring(equals + 3);
        int times = found.group(1) == null ? 1 : Integer.parseInt(found.group(1));
        for (int i = 0; i < times; i++) {
            String got = answer(found.group(2), given);
            if (!got.equals(due)) {
                tell(line, got, due);
            }
        }
    }

    private void tell(String line, String got, String due) {
        Checks.dueText("<" + sentence + "> " + (onModel ? "the model: " : "") + line, got, due);
    }

    private static List<String> tokens(String line) {
        List<String> found = new ArrayList<>();
        Matcher token = TOKEN.matcher(line);
        while (token.find()) {
            found.add(token.group());
        }
        return found;
    }

    private static String textOf(String token) {
        StringBuilder text = new StringBuilder();
        Matcher part = PART.matcher(token);
        while (part.find()) {
            if (part.group(3) != null) {
                text.append((char) Integer.parseInt(part.group(3)));
            } else {
                text.append(part.group(1).repeat(part.group(2) == null ? 1 : Integer.parseInt(part.group(2))));
            }
        }
        return text.toString();
    }

    private String answer(String name, List<String> given) {
        int last = given.size() - 1;
        if (last >= 0 && given.get(last).matches("[\"#].*")) {
            String text = textOf(given.get(last));
            return name.equals("feed") ? feed(text) : callWithText(name, given.subList(0, last), text);
        }
        List<Integer> numbers = new ArrayList<>();
        for (String one : given) {
            numbers.add(number(one));
        }
        return call(name, numbers);
    }

    private static int number(String token) {
        if (token.equals("MIN")) {
            return Integer.MIN_VALUE;
        }
        return token.equals("MAX") ? Integer.MAX_VALUE : Integer.parseInt(token);
    }

    private String callWithText(String name, List<String> given, String text) {
        feed(text);
        List<Integer> numbers = new ArrayList<>();
        given.forEach(one -> numbers.add(number(one)));
        numbers.add(text.length());
        return call(name, numbers);
    }

    /** What the last call answers. */
    private String feed(String text) {
        byte[] bytes = (text + " ".repeat((20 - text.length() % 20) % 20)).getBytes(StandardCharsets.ISO_8859_1);
        String answer = "nothing";
        for (int from = 0; from < bytes.length; from += 20) {
            List<Integer> numbers = new ArrayList<>();
            for (int i = from; i < from + 20; i += 4) {
                numbers.add(java.nio.ByteBuffer.wrap(bytes).getInt(i));
            }
            answer = call("feed", numbers);
        }
        return answer;
    }

    private String call(String name, List<Integer> numbers) {
        calls++;
        if (calls > CALLS_MOST) {
            tell(name, "call " + calls, "at most " + CALLS_MOST);
        }
        Class<?>[] types = new Class<?>[numbers.size()];
        java.util.Arrays.fill(types, int.class);
        try {
            Method method = object.getClass().getDeclaredMethod(name, types);
            Object answer = method.invoke(object, numbers.toArray());
            return answer instanceof Boolean ? (Boolean) answer ? "yes" : "no" : answer.toString();
        } catch (InvocationTargetException e) {
            return nameOf(e.getCause().getClass());
        } catch (NoSuchMethodException | IllegalAccessException e) {
            return "no such call";
        }
    }

    private static String nameOf(Class<?> thrown) {
        if (thrown == NoSuchElementException.class) {
            return "missing";
        }
        return thrown == IllegalArgumentException.class ? "wrong" : thrown.getName();
    }
}
