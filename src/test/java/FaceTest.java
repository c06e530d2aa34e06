import java.lang.reflect.Constructor;
import java.lang.reflect.Field;
import java.lang.reflect.Method;
import java.lang.reflect.Modifier;
import java.util.Arrays;
import java.util.Set;
import java.util.TreeSet;

/** The public face is the document's and no more; and no private method bears a public one's name. */
final class FaceTest {
    private static final String NO_INDEX = " throws java.lang.IndexOutOfBoundsException";
    private static final String NO_INDEX_OR_WHAT = NO_INDEX + ",java.lang.IllegalArgumentException";
    private static final Set<String> FACE = new TreeSet<>(Arrays.asList(
        "public int EditorServer.feed(int)", "public int EditorServer.state()", "public int EditorServer.code()",
        "public int EditorServer.waiting()", "public int EditorServer.request(int)" + NO_INDEX,
        "public int EditorServer.run(int)" + NO_INDEX, "public int EditorServer.responses()",
        "public int EditorServer.response(int,int)" + NO_INDEX_OR_WHAT,
        "public char EditorServer.written(int,int)" + NO_INDEX, "public int EditorServer.ignored()",
        "public int EditorServer.documents()", "public int EditorServer.document(int,int)" + NO_INDEX_OR_WHAT,
        "public char EditorServer.text(int,int)" + NO_INDEX, "public char EditorServer.name(int,int)" + NO_INDEX,
        "public int EditorServer.place(int,int,int)" + NO_INDEX));

    public static void main(String[] args) {
        Class<?> program = EditorServer.class;
        Session s = new Session("face");
        s.due("modifiers", () -> program.getModifiers(), Modifier.PUBLIC | Modifier.FINAL);
        Set<String> open = new TreeSet<>();
        Set<String> names = new TreeSet<>();
        for (Method method : program.getDeclaredMethods()) {
            if (!Modifier.isPrivate(method.getModifiers())) {
                open.add(method.toString());
                names.add(method.getName());
            }
        }
        s.due("methods", () -> open, FACE);
        for (Constructor<?> constructor : program.getDeclaredConstructors()) {
            s.due("constructor", constructor::toString, "public EditorServer()");
        }
        lookInside(s, program, names);
        for (Class<?> inside : program.getDeclaredClasses()) {
            s.due(inside + " is static", () -> Modifier.isStatic(inside.getModifiers()), true);
            lookInside(s, inside, names);
        }
        s.due("classes", () -> program.getDeclaredClasses().length < 12, true);
        Session.end();
    }

    private static void lookInside(Session s, Class<?> type, Set<String> names) {
        int fields = 0;
        for (Field field : type.getDeclaredFields()) {
            boolean constant = Modifier.isStatic(field.getModifiers());
            fields += constant ? 0 : 1;
            s.due(field + " is private", () -> Modifier.isPrivate(field.getModifiers()), true);
            s.due(field + " is fixed", () -> !constant || Modifier.isFinal(field.getModifiers()), true);
        }
        int count = fields;
        s.due(type + " has few fields", () -> count <= 20, true);
        for (Method method : type.getDeclaredMethods()) {
            boolean face = Modifier.isPublic(method.getModifiers());
            s.due(method + " has a name of its own", () -> face || !names.contains(method.getName()), true);
            s.due(method + " has few parameters", () -> method.getParameterCount() <= 7, true);
        }
    }
}
