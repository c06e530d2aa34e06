import java.util.function.Supplier;

/**
 * A server under test, and a count of the answers that were not the ones due.
 *
 * Where a method writes a message (say, request, notify), ' stands for " to keep the tests readable.
 */
final class Session {
    static final Class<?> OUTSIDE = IndexOutOfBoundsException.class;
    static final Class<?> NO_SUCH = IllegalArgumentException.class;

    private static final int MAX_CALLS = 512;
    private static int checks = 0;
    private static int wrong = 0;

    private final String title;
    private final EditorServer server = new EditorServer();
    private int calls = 0;

    Session(String title) {
        this.title = title;
    }

    /** A session that is READY, with one response (to the request 0) given. */
    static Session ready(String title) {
        return new Session(title).say("{'id':0,'method':'initialize'}");
    }

    /** The document promises nothing beyond 512 calls, so no test may go there. */
    EditorServer server() {
        calls++;
        if (calls > MAX_CALLS) {
            throw new AssertionError(title + ": more than " + MAX_CALLS + " calls");
        }
        return server;
    }

    int calls() {
        return calls;
    }

    int input(String characters) {
        int bodies = 0;
        for (int i = 0; i < characters.length(); i += 4) {
            int four = 0;
            for (int j = 0; j < 4 && i + j < characters.length(); j++) {
                four |= characters.charAt(i + j) << (8 * j);
            }
            bodies = server().feed(four);
        }
        return bodies;
    }

    Session send(String body) {
        input(body.length() + ":" + body);
        return this;
    }

    Session say(String body) {
        return send(body.replace('\'', '"'));
    }

    Session request(int id, String method, String params) {
        return say("{'id':" + id + ",'method':'" + method + "','params':" + params + "}");
    }

    Session notify(String method, String params) {
        return say("{'method':'" + method + "','params':" + params + "}");
    }

    /** Name and text stand as in a body: \n is written as two characters. */
    Session open(String name, int version, String text) {
        return notify("open", "['" + name + "'," + version + ",'" + text + "']");
    }

    /** Opens the document a, version 1. */
    static Session withText(String title, String text) {
        return ready(title).open("a", 1, text);
    }

    Session due(String call, Supplier<Object> answer, Object want) {
        checks++;
        Object got;
        try {
            got = answer.get();
        } catch (RuntimeException e) {
            got = e.getClass();
        }
        if (!got.equals(want)) {
            wrong++;
            System.out.println(title + ": " + call + " answered " + got + ", due is " + want);
        }
        return this;
    }

    Session feedDue(String characters, int bodies) {
        return due("input(" + characters + ")", () -> input(characters), bodies);
    }

    Session stateDue(int state) {
        return due("state()", () -> server().state(), state);
    }

    Session codeDue(int code) {
        return due("code()", () -> server().code(), code);
    }

    Session waitingDue(int waiting) {
        return due("waiting()", () -> server().waiting(), waiting);
    }

    Session requestDue(int k, Object want) {
        return due("request(" + k + ")", () -> server().request(k), want);
    }

    Session runDue(int k, Object want) {
        return due("run(" + k + ")", () -> server().run(k), want);
    }

    Session responsesDue(int responses) {
        return due("responses()", () -> server().responses(), responses);
    }

    Session responseDue(int k, int what, Object want) {
        return due("response(" + k + ", " + what + ")", () -> server().response(k, what), want);
    }

    /** The last response is an error with that id; null is none. */
    Session errorDue(Integer id, int error) {
        return lastDue(id, 0, error);
    }

    Session resultDue(Integer id, int result) {
        return lastDue(id, 1, result);
    }

    private Session lastDue(Integer id, int kind, int content) {
        int k = server().responses() - 1;
        responseDue(k, 0, id == null ? 0 : id);
        responseDue(k, 1, id == null ? 0 : 1);
        responseDue(k, 2, kind);
        return responseDue(k, 3, content);
    }

    Session writtenDue(int k, String frame) {
        for (int i = 0; i < frame.length(); i++) {
            writtenDue(k, i, frame.charAt(i));
        }
        writtenDue(k, -1, '\0');
        return writtenDue(k, frame.length(), '\0');
    }

    Session writtenDue(int k, int i, Object want) {
        return due("written(" + k + ", " + i + ")", () -> server().written(k, i), want);
    }

    Session ignoredDue(int ignored) {
        return due("ignored()", () -> server().ignored(), ignored);
    }

    Session documentsDue(int documents) {
        return due("documents()", () -> server().documents(), documents);
    }

    Session documentDue(int d, int what, Object want) {
        return due("document(" + d + ", " + what + ")", () -> server().document(d, what), want);
    }

    Session wholeDue(int d, String name, int version, String text) {
        documentDue(d, 0, version);
        documentDue(d, 1, text.length());
        documentDue(d, 2, name.length());
        documentDue(d, 3, text.split("\n", -1).length);
        for (int i = 0; i < name.length(); i++) {
            nameDue(d, i, name.charAt(i));
        }
        for (int i = 0; i < text.length(); i++) {
            textDue(d, i, text.charAt(i));
        }
        nameDue(d, -1, OUTSIDE);
        nameDue(d, name.length(), OUTSIDE);
        textDue(d, -1, OUTSIDE);
        return textDue(d, text.length(), OUTSIDE);
    }

    Session textDue(int d, int i, Object want) {
        return due("text(" + d + ", " + i + ")", () -> server().text(d, i), want);
    }

    Session nameDue(int d, int i, Object want) {
        return due("name(" + d + ", " + i + ")", () -> server().name(d, i), want);
    }

    Session placeDue(int d, int line, int units, Object want) {
        return due("place(" + d + ", " + line + ", " + units + ")", () -> server().place(d, line, units), want);
    }

    static void end() {
        System.out.println(checks + " answers looked at, " + wrong + " not as due");
        if (wrong != 0 || checks == 0) {
            System.exit(1);
        }
    }
}
