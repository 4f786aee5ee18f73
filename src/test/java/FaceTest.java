import java.lang.reflect.Constructor;
import java.lang.reflect.Field;
import java.lang.reflect.Member;
import java.lang.reflect.Method;
import java.lang.reflect.Modifier;
import java.util.Arrays;
import java.util.Set;
import java.util.TreeSet;
import java.util.stream.Collectors;

/** The public face: every name, type and told exception of the document, and nothing more that can be seen. */
public final class FaceTest {
    private static final String NO = "NoSuchElementException";
    private static final String WRONG = "IllegalArgumentException";
    private static final String BOTH = NO + "," + WRONG;

    // Return type, name, how many ints, what is told to be thrown.
    private static final String[] FACE = {
        "int feed 5 -", "int coast 1 " + WRONG, "int law 2 " + WRONG, "int work 1 " + WRONG, "int book 1 " + WRONG,
        "int fault 0 -", "int undo 0 -", "int told 1 " + WRONG, "int place 2 " + BOTH, "int want 2 " + BOTH,
        "int mine 2 " + BOTH, "int arrives 4 " + BOTH, "int digs 2 " + BOTH, "boolean can 1 " + NO,
        "int sales 1 " + WRONG, "int more 2 " + BOTH, "int brings 3 " + BOTH, "int price 1 " + NO,
        "int corner 2 " + BOTH, "long option 7 " + WRONG, "long late 7 " + WRONG, "boolean now 6 " + WRONG,
        "int nights 2 " + BOTH, "int night 2 " + BOTH, "int looks 3 " + WRONG, "int leaky 1 " + WRONG,
        "int misses 2 " + BOTH, "int seam 4 " + BOTH, "int sellers 3 " + BOTH, "int gets 3 " + BOTH,
        "int moons 1 " + WRONG, "int dark 1 " + WRONG, "int bright 1 " + WRONG, "int darks 2 " + WRONG,
        "int clouds 5 " + WRONG, "int span 6 " + WRONG, "int ahead 3 " + BOTH, "int chosen 1 " + WRONG,
        "int image 0 -", "int restore 0 -", "int status 1 -", "int count 1 -"};

    private static boolean wrong = false;

    private FaceTest() {
    }

    public static void main(String[] args) {
        Class<?> face = WickNights.class;
        fine("final and public", Modifier.isFinal(face.getModifiers()) && Modifier.isPublic(face.getModifiers()));
        Set<String> names = Arrays.stream(FACE).map(line -> line.split(" ")[1]).collect(Collectors.toSet());
        Set<String> seen = new TreeSet<>();
        for (Method method : face.getDeclaredMethods()) {
            if (Modifier.isPublic(method.getModifiers())) {
                seen.add(told(method));
                fine(method + " takes ints", Arrays.stream(method.getParameterTypes()).allMatch(t -> t == int.class));
            } else {
                membersHidden(new Member[] {method}, names);
            }
        }
        Set<String> due = new TreeSet<>(Arrays.asList(FACE));
        fine("the methods are " + seen + ", due are " + due, seen.equals(due));
        fine("one constructor without arguments", face.getDeclaredConstructors().length == 1
            && face.getConstructors().length == 1 && face.getConstructors()[0].getParameterCount() == 0);
        for (Field field : face.getDeclaredFields()) {
            boolean none = field.getName().equals("NONE") && field.getType() == int.class
                && Modifier.isPublic(field.getModifiers()) && Modifier.isStatic(field.getModifiers());
            fine(field + " is private", none || Modifier.isPrivate(field.getModifiers()));
            fine(field + " is no state", !Modifier.isStatic(field.getModifiers())
                || Modifier.isFinal(field.getModifiers()));
        }
        for (Class<?> inside : face.getDeclaredClasses()) {
            fine(inside + " is private and static",
                Modifier.isPrivate(inside.getModifiers()) && Modifier.isStatic(inside.getModifiers()));
            membersHidden(inside.getDeclaredMethods(), names);
            membersHidden(inside.getDeclaredConstructors(), names);
            membersHidden(inside.getDeclaredFields(), Set.of());
        }
        fine("at most twelve classes", face.getDeclaredClasses().length <= 11);
        System.out.println(wrong ? "the face is not as due" : "the face is as due");
        if (wrong) {
            System.exit(1);
        }
    }

    private static void membersHidden(Member[] members, Set<String> names) {
        for (Member member : members) {
            fine(member + " is private", Modifier.isPrivate(member.getModifiers()));
            fine(member + " has a name of its own",
                member instanceof Constructor || !names.contains(member.getName()));
        }
    }

    private static String told(Method method) {
        String thrown = Arrays.stream(method.getExceptionTypes()).map(Class::getSimpleName)
            .collect(Collectors.joining(","));
        return method.getReturnType() + " " + method.getName() + " " + method.getParameterCount() + " "
            + (thrown.isEmpty() ? "-" : thrown);
    }

    private static void fine(String what, boolean is) {
        if (!is) {
            wrong = true;
            System.out.println("not so: " + what);
        }
    }
}
