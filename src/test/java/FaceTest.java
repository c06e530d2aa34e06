import java.lang.reflect.Constructor;
import java.lang.reflect.Field;
import java.lang.reflect.Method;
import java.lang.reflect.Modifier;
import java.util.Arrays;
import java.util.Set;
import java.util.TreeSet;

/** The public face is the document's and no more; and no private method bears a public one's name. */
final class FaceTest {
    private static final Set<String> FACE = new TreeSet<>(Arrays.asList(
        "int feed[int]", "int state[]", "int code[]", "int waiting[]", "int request[int]", "int run[int]",
        "int responses[]", "int response[int, int]", "char written[int, int]", "int ignored[]", "int documents[]",
        "int document[int, int]", "char text[int, int]", "char name[int, int]", "int place[int, int, int]"));

    public static void main(String[] args) {
        Class<?> program = EditorServer.class;
        Session s = new Session("face");
        s.due("modifiers", () -> program.getModifiers(), Modifier.PUBLIC | Modifier.FINAL);
        Set<String> open = new TreeSet<>();
        Set<String> names = new TreeSet<>();
        for (Method method : program.getDeclaredMethods()) {
            if (!Modifier.isPrivate(method.getModifiers())) {
                open.add(method.getReturnType() + " " + method.getName() + Arrays.toString(method.getParameterTypes()));
                names.add(method.getName());
                s.due(method + " is", () -> method.getModifiers(), Modifier.PUBLIC);
            }
        }
        s.due("methods", () -> open, FACE);
        for (Constructor<?> constructor : program.getDeclaredConstructors()) {
            s.due("constructor", constructor::toString, "public EditorServer()");
        }
        lookInside(s, program, names);
        for (Class<?> inside : program.getDeclaredClasses()) {
            s.due(inside + " is static", () -> Modifier.isStatic(inside.getModifiers()), true);
            lookInside(s, inside, names);
        }
        s.due("classes", () -> program.getDeclaredClasses().length < 12, true);
        Session.end();
    }

    private static void lookInside(Session s, Class<?> type, Set<String> names) {
        int fields = 0;
        for (Field field : type.getDeclaredFields()) {
            boolean constant = Modifier.isStatic(field.getModifiers());
            fields += constant ? 0 : 1;
            s.due(field + " is private", () -> Modifier.isPrivate(field.getModifiers()), true);
            s.due(field + " is fixed", () -> !constant || Modifier.isFinal(field.getModifiers()), true);
        }
        int count = fields;
        s.due(type + " has few fields", () -> count <= 20, true);
        for (Method method : type.getDeclaredMethods()) {
            boolean face = Modifier.isPublic(method.getModifiers());
            s.due(method + " has a name of its own", () -> face || !names.contains(method.getName()), true);
            s.due(method + " has few parameters", () -> method.getParameterCount() <= 7, true);
        }
    }
}
