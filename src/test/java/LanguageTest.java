import java.io.DataInputStream;
import java.io.IOException;
import java.nio.file.Files;
import java.nio.file.Path;
import java.util.ArrayList;
import java.util.Arrays;
import java.util.List;
import java.util.Set;
import java.util.TreeSet;

/** Those rules of LANGUAGE.md that the compiled classes and the words of the source tell by themselves. */
final class LanguageTest {
    private static final Path SOURCE = Path.of("src/main/java/EditorServer.java");
    private static final int MAX_METHOD_LINES = 60;
    // What the program uses so far, which is less than rule 4 lets it: what is added here is to be looked up there.
    private static final Set<String> LIBRARY = new TreeSet<>(Arrays.asList(
        "java/lang/Object.<init>", "java/lang/Math.max", "java/lang/Math.min", "java/lang/System.arraycopy",
        "java/lang/String.length", "java/lang/String.charAt",
        "java/lang/StringBuilder.<init>", "java/lang/StringBuilder.append", "java/lang/StringBuilder.charAt",
        "java/lang/StringBuilder.length", "java/lang/StringBuilder.setLength",
        "java/lang/IndexOutOfBoundsException.<init>", "java/lang/IllegalArgumentException.<init>"));
    private static final String[] REFUSED_WORDS = {"package", "import", "protected", "try", "catch", "finally",
        "synchronized", "assert", "native", "transient", "volatile", "Thread", "Random", "System.out"};

    private static final int UTF = 1;
    private static final int INTEGER = 3;
    private static final int FLOAT = 4;
    private static final int LONG = 5;
    private static final int DOUBLE = 6;
    private static final int CLASS = 7;
    private static final int FIELD = 9;
    private static final int METHOD = 10;
    private static final int INTERFACE_METHOD = 11;
    private static final int NAME_AND_TYPE = 12;
    private static final int METHOD_HANDLE = 15;
    private static final int DYNAMIC = 17;
    private static final int INVOKE_DYNAMIC = 18;

    public static void main(String[] args) throws IOException {
        Session s = new Session("language");
        compiled(s, EditorServer.class);
        for (Class<?> inside : EditorServer.class.getDeclaredClasses()) {
            s.due(inside + " has no classes inside", () -> inside.getDeclaredClasses().length, 0);
            compiled(s, inside);
        }
        List<String> lines = Files.readAllLines(SOURCE);
        words(s, lines);
        methodLines(s, lines);
        Session.end();
    }

    /** Rule 4, the library; rules 2 and 10, no lambda, no method reference, no text joined by +; rule 5. */
    private static void compiled(Session s, Class<?> type) throws IOException {
        try (DataInputStream in = new DataInputStream(type.getResourceAsStream(type.getName() + ".class"))) {
            in.readInt();
            in.readInt();
            int[][] entries = new int[in.readUnsignedShort()][];
            String[] texts = new String[entries.length];
            for (int i = 1; i < entries.length; i++) {
                entries[i] = readEntry(in, texts, i);
                i += entries[i][0] == LONG || entries[i][0] == DOUBLE ? 1 : 0;
            }
            for (int[] entry : entries) {
                if (entry != null) {
                    entryDue(s, type, entry, entries, texts);
                }
            }
            s.due(type + " has a static initialiser", () -> Arrays.asList(texts).contains("<clinit>"), false);
        }
    }

    /** The tag of an entry of the constant pool, and the numbers of the entries it names. */
    private static int[] readEntry(DataInputStream in, String[] texts, int i) throws IOException {
        int tag = in.readUnsignedByte();
        switch (tag) {
            case UTF:
                texts[i] = in.readUTF();
                return new int[] {tag};
            case LONG:
            case DOUBLE:
                in.readLong();
                return new int[] {tag};
            case METHOD_HANDLE:
                in.readUnsignedByte();
                return new int[] {tag, in.readUnsignedShort()};
            case FIELD:
            case METHOD:
            case INTERFACE_METHOD:
            case NAME_AND_TYPE:
            case DYNAMIC:
            case INVOKE_DYNAMIC:
            case INTEGER:
            case FLOAT:
                return new int[] {tag, in.readUnsignedShort(), in.readUnsignedShort()};
            default:
                return new int[] {tag, in.readUnsignedShort()};
        }
    }

    private static void entryDue(Session s, Class<?> type, int[] entry, int[][] entries, String[] texts) {
        int tag = entry[0];
        boolean dynamic = tag == METHOD_HANDLE || tag == DYNAMIC || tag == INVOKE_DYNAMIC;
        s.due(type + " has a lambda, a method reference or a text joined by +", () -> dynamic, false);
        if (tag == CLASS) {
            String name = texts[entry[1]];
            s.due(name + " is an own class, a row or of the library", () -> isKnown(name), true);
        }
        if (tag == FIELD || tag == METHOD || tag == INTERFACE_METHOD) {
            String owner = texts[entries[entry[1]][1]];
            String member = owner + "." + texts[entries[entry[2]][1]];
            s.due(member + " may be used", () -> owner.startsWith("EditorServer") || LIBRARY.contains(member), true);
        }
    }

    private static boolean isKnown(String name) {
        return name.startsWith("EditorServer") || name.startsWith("[")
            || LIBRARY.stream().anyMatch(member -> member.startsWith(name + "."));
    }

    private static void words(Session s, List<String> lines) {
        for (String line : lines) {
            String code = line.replaceAll("//.*|^ */?\\*.*|\"(\\\\.|[^\"\\\\])*\"", "");
            for (String word : REFUSED_WORDS) {
                s.due(word + " in " + line, () -> code.matches(".*\\b" + word + "\\b.*"), false);
            }
        }
    }

    /** Rule 11: "Methods stay short (some sixty lines)"; a method's last brace stands below its first word. */
    private static void methodLines(Session s, List<String> lines) {
        List<Integer> begins = new ArrayList<>();
        for (int i = 0; i < lines.size(); i++) {
            if (lines.get(i).matches(" {4}( {4})?(?!for|if|while|switch|else)[A-Za-z][^=]*\\(.*\\{")) {
                begins.add(i);
            }
        }
        s.due("methods were found", () -> begins.size() > 15, true);
        for (int begin : begins) {
            String indent = lines.get(begin).replaceAll("\\S.*", "");
            int size = lines.subList(begin, lines.size()).indexOf(indent + "}") + 1;
            s.due(lines.get(begin) + " is short", () -> size >= 2 && size <= MAX_METHOD_LINES, true);
        }
    }
}
