import java.util.Random;
import java.util.function.Supplier;

/** Long runs of calls, the same ones each time, on the program and on the model of the document. */
final class ModelTest {
    private static final int RUNS = 6000;
    private static final int CALLS = 512;
    private static final String[] METHODS = {"open", "open", "open", "close", "change", "change", "change", "change",
        "cancel", "length", "index", "index", "at", "at", "at", "lines", "initialize", "shutdown", "exit", "x", ""};
    private static final String[] NAMES = {"a", "b", "cd", "efgh", "a", "b", "ijklm", "", "\\n"};
    private static final String[] PIECES = {"a", "b", "~", "\\n", "\\\"", "\\\\", " ", "xyz", "~~", "\\n\\n",
        "abcabcab"};
    private static final String SOUP = "[]{},:\"\\ \n0123456789-truefalsnx~\t\u007f\u0001";

    private final Random random;
    private final EditorServer server = new EditorServer();
    private final Model model = new Model();
    private final int run;
    private final boolean careful;
    private int calls = 0;
    private String pending = "";

    private ModelTest(int run) {
        this.run = run;
        this.random = new Random(run);
        // Most runs keep to good frames, or else few would come far.
        this.careful = run % 4 != 0;
    }

    public static void main(String[] args) {
        int[] reached = new int[5];
        for (int run = 0; run < RUNS; run++) {
            ModelTest test = new ModelTest(run);
            test.go();
            reached[test.model.state]++;
        }
        System.out.println(RUNS + " runs as in the model; last states " + java.util.Arrays.toString(reached));
        for (int count : reached) {
            if (count == 0) {
                System.out.println("a state was never the last one: the runs are too poor");
                System.exit(1);
            }
        }
    }

    private void go() {
        if (random.nextInt(10) > 0) {
            pending = frame("{\"id\":1,\"method\":\"initialize\"}");
        }
        while (calls < CALLS) {
            if (random.nextInt(4) > 0) {
                feed();
            } else {
                look();
            }
        }
    }

    private void same(String call, Supplier<Object> program, Supplier<Object> due) {
        calls++;
        Object got;
        try {
            got = program.get();
        } catch (RuntimeException e) {
            got = e.getClass();
        }
        Object want = due.get();
        if (!got.equals(want)) {
            System.out.println("run " + run + ", call " + calls + ": " + call + " answered " + got + ", due is " + want);
            System.exit(1);
        }
    }

    private void feed() {
        while (pending.length() < 4) {
            pending += noise() + frame(random.nextInt(12) == 0 ? soup() : body());
        }
        int four = 0;
        for (int i = 0; i < 4; i++) {
            four |= pending.charAt(i) << (8 * i);
        }
        pending = pending.substring(4);
        int characters = four;
        same("feed(" + four + ")", () -> server.feed(characters), () -> model.feed(characters));
    }

    private String noise() {
        int n = random.nextInt(careful ? 20 : 200);
        if (n == 0) {
            return "\0\u0080\u00ff".substring(random.nextInt(3));
        }
        return !careful && n == 1 ? soup() : "";
    }

    private static String frame(String body) {
        String cut = body.length() > 200 ? body.substring(0, 200) : body;
        return cut.length() + ":" + cut;
    }

    private String soup() {
        StringBuilder soup = new StringBuilder();
        int length = 1 + random.nextInt(12);
        for (int i = 0; i < length; i++) {
            soup.append(SOUP.charAt(random.nextInt(SOUP.length())));
        }
        return soup.toString();
    }

    private String blank() {
        int n = random.nextInt(60);
        return n == 0 ? " " : n == 1 ? "\n" : n == 2 ? " \n " : "";
    }

    private String body() {
        String method = METHODS[random.nextInt(METHODS.length)];
        if ((method.equals("exit") || method.equals("shutdown")) && random.nextInt(6) > 0) {
            method = "lines";
        }
        boolean asks = "length index at lines initialize shutdown".contains(method) && !method.isEmpty();
        boolean withId = random.nextInt(20) == 0 ? !asks : asks;
        String id = random.nextInt(40) == 0 ? any(2) : String.valueOf(random.nextInt(12) - 2);
        String params = random.nextInt(25) == 0 ? any(3) : params(method);
        String body = "{" + blank() + (withId ? "\"id\"" + blank() + ":" + id + "," : "") + "\"method\":" + blank()
            + (random.nextInt(60) == 0 ? any(1) : "\"" + method + "\"") + blank() + ",\"params\":" + params + blank() + "}";
        if (random.nextInt(25) == 0) {
            int at = random.nextInt(body.length());
            body = body.substring(0, at) + SOUP.charAt(random.nextInt(SOUP.length())) + body.substring(at + 1);
        }
        return body;
    }

    private String params(String method) {
        String name = "\"" + NAMES[random.nextInt(NAMES.length)] + "\"";
        switch (method) {
            case "open":
                return "[" + name + "," + number() + "," + string(random.nextInt(14)) + "]";
            case "change":
                StringBuilder edits = new StringBuilder();
                for (int n = random.nextInt(4); n > 0; n--) {
                    edits.append(',').append(random.nextInt(30) == 0 ? any(2) : edit());
                }
                return "[" + name + "," + (random.nextInt(3) == 0 ? number() : model.bodies) + edits + "]";
            case "index":
                return "[" + name + "," + blank() + string(random.nextInt(9) == 0 ? 2 : 1) + "]";
            case "at":
                return "[" + name + "," + number() + blank() + "," + number() + "]";
            case "cancel":
                return "[" + (random.nextInt(12) - 2) + "]";
            default:
                return "[" + name + "]";
        }
    }

    private String edit() {
        if (random.nextInt(4) == 0) {
            return string(random.nextInt(12));
        }
        return "[" + number() + "," + number() + "," + number() + "," + number() + "," + string(random.nextInt(5)) + "]";
    }

    private String number() {
        return String.valueOf(random.nextInt(12) == 0 ? random.nextInt(1999999) - 999999 : random.nextInt(9) - 2);
    }

    private String string(int pieces) {
        StringBuilder string = new StringBuilder("\"");
        for (int i = 0; i < pieces; i++) {
            string.append(PIECES[random.nextInt(PIECES.length)]);
        }
        return string.append('"').toString();
    }

    private String any(int depth) {
        int kind = random.nextInt(depth > 0 ? 8 : 5);
        switch (kind) {
            case 0:
                return "null";
            case 1:
                return random.nextBoolean() ? "true" : "false";
            case 2:
                return number();
            case 3:
            case 4:
                return string(random.nextInt(3));
            case 5:
                return "{\"" + PIECES[random.nextInt(PIECES.length)] + "\":" + any(depth - 1) + "}";
            case 6:
                return "[" + any(depth - 1) + "," + any(depth - 1) + "]";
            default:
                return random.nextBoolean() ? "[]" : "{}";
        }
    }

    private int index(int size) {
        return random.nextInt(size + 3) - 1;
    }

    private static Object within(int k, int size, Supplier<Object> due) {
        return k < 0 || k >= size ? IndexOutOfBoundsException.class : due.get();
    }

    private void look() {
        switch (random.nextInt(9)) {
            case 0:
                same("state()", server::state, () -> model.state);
                same("code()", server::code, () -> model.code);
                return;
            case 1:
                same("waiting()", server::waiting, model.asks::size);
                same("ignored()", server::ignored, () -> model.ignored);
                return;
            case 2:
                same("responses()", server::responses, model.replies::size);
                same("documents()", server::documents, model.docs::size);
                return;
            case 3:
                int k = index(model.asks.size());
                same("request(" + k + ")", () -> server.request(k), () -> within(k, model.asks.size(),
                    () -> model.asks.get(k).id()));
                return;
            case 4:
                int r = index(model.asks.size());
                same("run(" + r + ")", () -> server.run(r), () -> within(r, model.asks.size(), () -> model.run(r)));
                return;
            case 5:
                lookAtResponse(random.nextInt(3) == 0 ? index(model.replies.size()) : model.replies.size() - 1);
                return;
            default:
                lookAtDocument(index(model.docs.size()));
                return;
        }
    }

    private void lookAtResponse(int k) {
        int what = random.nextInt(6) - 1;
        same("response(" + k + ", " + what + ")", () -> server.response(k, what),
            () -> within(k, model.replies.size(), () -> replyPart(model.replies.get(k), what)));
        int i = random.nextInt(36) - 2;
        same("written(" + k + ", " + i + ")", () -> server.written(k, i), () -> within(k, model.replies.size(),
            () -> i >= 0 && i < model.written(k).length() ? model.written(k).charAt(i) : '\0'));
    }

    private static Object replyPart(Model.Reply reply, int what) {
        switch (what) {
            case 0:
                return reply.id() == null ? 0 : reply.id();
            case 1:
                return reply.id() == null ? 0 : 1;
            case 2:
                return reply.result() ? 1 : 0;
            case 3:
                return reply.value();
            default:
                return IllegalArgumentException.class;
        }
    }

    private void lookAtDocument(int d) {
        int what = random.nextInt(6) - 1;
        int size = model.docs.size();
        same("document(" + d + ", " + what + ")", () -> server.document(d, what),
            () -> within(d, size, () -> documentPart(model.docs.get(d), what)));
        int i = random.nextInt(64) - 2;
        same("text(" + d + ", " + i + ")", () -> server.text(d, i), () -> within(d, size,
            () -> within(i, model.docs.get(d).text().length(), () -> model.docs.get(d).text().charAt(i))));
        int j = random.nextInt(7) - 1;
        same("name(" + d + ", " + j + ")", () -> server.name(d, j), () -> within(d, size,
            () -> within(j, model.docs.get(d).name().length(), () -> model.docs.get(d).name().charAt(j))));
        int line = random.nextInt(9) - 2;
        int units = random.nextInt(20) - 2;
        same("place(" + d + ", " + line + ", " + units + ")", () -> server.place(d, line, units),
            () -> within(d, size, () -> Model.place(model.docs.get(d).text(), line, units)));
    }

    private static Object documentPart(Model.Doc doc, int what) {
        switch (what) {
            case 0:
                return doc.version();
            case 1:
                return doc.text().length();
            case 2:
                return doc.name().length();
            case 3:
                return Model.lines(doc.text()).length;
            default:
                return IllegalArgumentException.class;
        }
    }
}
