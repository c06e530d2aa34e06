import java.util.ArrayList;
import java.util.LinkedHashMap;
import java.util.List;
import java.util.Map;
import java.util.Optional;
import java.util.regex.Matcher;
import java.util.regex.Pattern;

/**
 * The document once more, written from its words in another way (regular expressions, lists and maps),
 * to be compared with the program.
 */
final class Model {
    static final Object NULL = new Object();

    record Doc(String name, int version, String text) { }

    record Ask(int id, String method, List<?> params, String text) { }

    record Reply(Integer id, boolean result, int value) { }

    int state = 0;
    int code = -1;
    int bodies = 0;
    int ignored = 0;
    final List<Doc> docs = new ArrayList<>();
    final List<Ask> asks = new ArrayList<>();
    final List<Reply> replies = new ArrayList<>();
    private String input = "";

    int feed(int four) {
        for (int i = 0; i < 4; i++) {
            int c = (byte) (four >> (8 * i));
            if (c > 0 && state < 3) {
                input += (char) c;
                look();
            }
        }
        return bodies;
    }

    private void look() {
        int colon = input.indexOf(':');
        String header = colon < 0 ? input : input.substring(0, colon);
        if (!header.matches("[0-9]{0,3}")) {
            state = 4;
        } else if (colon >= 0) {
            int n = header.isEmpty() ? 0 : Integer.parseInt(header);
            if (n == 0 || n > 200) {
                state = 4;
            } else if (input.length() == colon + 1 + n) {
                String body = input.substring(colon + 1);
                input = "";
                bodies++;
                body(body);
            }
        }
    }

    private void reply(Integer id, boolean result, int value) {
        if (replies.size() < 60) {
            replies.add(new Reply(id, result, value));
        }
    }

    private void body(String body) {
        Optional<Object> value = new Parser(body).parse();
        if (value.isEmpty()) {
            reply(null, false, -32700);
            return;
        }
        Map<?, ?> message = value.get() instanceof Map<?, ?> m ? m : Map.of();
        Integer id = message.get("id") instanceof Integer n ? n : null;
        if (!(message.get("method") instanceof String method) || (message.containsKey("id") && id == null)) {
            reply(id, false, -32600);
            return;
        }
        List<?> params = message.get("params") instanceof List<?> l ? l : null;
        if (id != null) {
            request(id, method, params);
        } else if (method.equals("exit")) {
            code = state == 2 ? 0 : 1;
            state = 3;
        } else if (state == 1 && !notification(method, params)) {
            ignored++;
        }
    }

    private static String shape(List<?> params) {
        StringBuilder shape = new StringBuilder();
        for (Object o : params == null ? List.of(List.of()) : params) {
            shape.append(o instanceof String ? 's' : o instanceof Integer ? 'i' : o instanceof List ? 'l' : '?');
        }
        return shape.toString();
    }

    private int doc(Object name) {
        for (int d = 0; d < docs.size(); d++) {
            if (docs.get(d).name.equals(name)) {
                return d;
            }
        }
        return -1;
    }

    private void request(int id, String method, List<?> params) {
        if (state == 0) {
            boolean begin = method.equals("initialize");
            state = begin ? 1 : 0;
            reply(id, begin, begin ? 0 : -32002);
        } else if (state == 2 || method.equals("initialize")) {
            reply(id, false, -32600);
        } else if (method.equals("shutdown")) {
            state = 2;
            reply(id, true, 0);
        } else {
            Map<String, String> shapes = Map.of("length", "s", "lines", "s", "index", "ss", "at", "sii");
            String due = shapes.get(method);
            if (due == null) {
                reply(id, false, -32601);
            } else if (!shape(params).equals(due) || doc(params.get(0)) < 0
                || (method.equals("index") && ((String) params.get(1)).length() != 1)) {
                reply(id, false, -32602);
            } else if (asks.size() == 8) {
                reply(id, false, -32803);
            } else {
                asks.add(new Ask(id, method, params, docs.get(doc(params.get(0))).text));
            }
        }
    }

    int run(int k) {
        Ask ask = asks.remove(k);
        int result = switch (ask.method) {
            case "length" -> ask.text.length();
            case "lines" -> lines(ask.text).length;
            case "index" -> ask.text.indexOf((String) ask.params.get(1));
            default -> {
                int p = place(ask.text, (Integer) ask.params.get(1), (Integer) ask.params.get(2));
                yield p < ask.text.length() ? ask.text.charAt(p) : -1;
            }
        };
        reply(ask.id, result >= 0, result >= 0 ? result : -32603);
        return ask.id;
    }

    private boolean notification(String method, List<?> params) {
        String shape = shape(params);
        switch (method) {
            case "open":
                if (!shape.equals("sis") || docs.size() == 3 || doc(params.get(0)) >= 0) {
                    return false;
                }
                Doc fresh = new Doc((String) params.get(0), (Integer) params.get(1), (String) params.get(2));
                return fresh.name.length() >= 1 && fresh.name.length() <= 4 && fresh.text.length() <= 60
                    && docs.add(fresh);
            case "close":
                return shape.equals("s") && doc(params.get(0)) >= 0 && docs.remove(doc(params.get(0))) != null;
            case "change":
                return shape.startsWith("si") && doc(params.get(0)) >= 0 && change(doc(params.get(0)), params);
            case "cancel":
                for (int k = 0; shape.equals("i") && k < asks.size(); k++) {
                    if (params.get(0).equals(asks.get(k).id)) {
                        reply(asks.remove(k).id, false, -32800);
                        return true;
                    }
                }
                return false;
            default:
                return false;
        }
    }

    private boolean change(int d, List<?> params) {
        Doc old = docs.get(d);
        int version = (Integer) params.get(1);
        String text = old.text;
        for (Object edit : params.subList(2, params.size())) {
            if (edit instanceof String whole) {
                text = whole;
            } else if (edit instanceof List<?> l && shape(l).equals("iiiis")) {
                int p = place(text, (Integer) l.get(0), (Integer) l.get(1));
                int q = place(text, (Integer) l.get(2), (Integer) l.get(3));
                text = text.substring(0, Math.min(p, q)) + l.get(4) + text.substring(Math.max(p, q));
            } else {
                return false;
            }
            if (text.length() > 60) {
                return false;
            }
        }
        if (version <= old.version) {
            return false;
        }
        docs.set(d, new Doc(old.name, version, text));
        return true;
    }

    static String[] lines(String text) {
        return text.split("\n", -1);
    }

    static int place(String text, int line, int units) {
        String[] lines = lines(text);
        if (line < 0) {
            return 0;
        }
        if (line >= lines.length) {
            return text.length();
        }
        int start = 0;
        for (int i = 0; i < line; i++) {
            start += lines[i].length() + 1;
        }
        int best = 0;
        for (int n = 0; n <= lines[line].length(); n++) {
            // A wide character counted twice: once as itself and once as what stands for it here.
            if (lines[line].substring(0, n).replace("~", "~~").length() <= units) {
                best = n;
            }
        }
        return start + best;
    }

    String written(int k) {
        Reply r = replies.get(k);
        String body = String.format("{\"id\":%s,\"%s\":%d}", r.id, r.result ? "result" : "error", r.value);
        return body.length() + ":" + body;
    }

    /** Cuts a body into tokens by a regular expression, then reads those. */
    private static final class Parser {
        private static final Pattern TOKEN = Pattern.compile(
            "[ \n]*+([\\[\\]{},:]|true|false|null|-?[1-9][0-9]{0,5}+(?![0-9])|0(?![0-9])"
                + "|\"(?:[ !#-\\[\\]-~]|\\\\[\"\\\\n])*+\")[ \n]*+");
        private final List<String> tokens = new ArrayList<>();
        private final boolean clean;
        private int next = 0;
        private int values = 0;

        Parser(String body) {
            Matcher m = TOKEN.matcher(body);
            int end = 0;
            while (end < body.length() && m.region(end, body.length()).lookingAt()) {
                tokens.add(m.group(1));
                end = m.end();
            }
            clean = end == body.length() && end > 0;
        }

        Optional<Object> parse() {
            Object value = clean ? value(0) : null;
            boolean whole = value != null && next == tokens.size() && values <= 40;
            return whole ? Optional.of(value) : Optional.empty();
        }

        private String peek() {
            return next < tokens.size() ? tokens.get(next) : "";
        }

        private boolean eat(String token) {
            boolean same = peek().equals(token);
            next += same ? 1 : 0;
            return same;
        }

        private static String letters(String token) {
            return token.substring(1, token.length() - 1).replace("\\\\", "\u0002").replace("\\\"", "\"")
                .replace("\\n", "\n").replace("\u0002", "\\");
        }

        private Object value(int depth) {
            values++;
            String token = peek();
            next++;
            if (token.equals("[")) {
                return depth == 6 ? null : array(depth + 1);
            }
            if (token.equals("{")) {
                return depth == 6 ? null : object(depth + 1);
            }
            if (token.startsWith("\"")) {
                return letters(token);
            }
            if (token.matches("-?[0-9]+")) {
                return Integer.valueOf(token);
            }
            return token.matches("true|false|null") ? NULL : null;
        }

        private Object array(int depth) {
            List<Object> list = new ArrayList<>();
            if (eat("]")) {
                return list;
            }
            do {
                Object value = value(depth);
                if (value == null) {
                    return null;
                }
                list.add(value);
            } while (eat(","));
            return eat("]") ? list : null;
        }

        private Object object(int depth) {
            Map<String, Object> map = new LinkedHashMap<>();
            if (eat("}")) {
                return map;
            }
            do {
                String token = peek();
                next++;
                Object value = token.startsWith("\"") && eat(":") ? value(depth) : null;
                if (value == null) {
                    return null;
                }
                map.putIfAbsent(letters(token), value);
            } while (eat(","));
            return eat("}") ? map : null;
        }
    }
}
