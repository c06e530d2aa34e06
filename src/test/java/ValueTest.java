/** What is a value (error -32600, being no message) and what is none (error -32700). */
final class ValueTest {
    public static void main(String[] args) {
        words();
        numbers();
        strings();
        arraysAndObjects();
        blanks();
        depth();
        count();
        firstMemberCounts();
        Session.end();
    }

    private static void good(String... bodies) {
        for (String body : bodies) {
            new Session("value " + body).send(body).errorDue(null, -32600).responsesDue(1).stateDue(0);
        }
    }

    private static void bad(String... bodies) {
        for (String body : bodies) {
            new Session("no value " + body).send(body).errorDue(null, -32700).responsesDue(1).stateDue(0);
        }
    }

    private static void words() {
        good("true", "false", "null", "[true,false,null]");
        bad("tru", "truee", "True", "t", "fals", "falsee", "f", "nul", "nulll", "n", "truefalse", "true false", "x",
            "[tru]", "[nul,1]", "undefined");
    }

    private static void numbers() {
        good("0", "1", "9", "-1", "-9", "10", "999999", "-999999", "100000", "[0,-1]");
        bad("-0", "-", "00", "01", "-01", "007", "1234567", "-1234567", "1.0", "1e1", "+1", "--1", "- 1", "1 2",
            "12a", "[1234567]", "[-0]", "[01]", "0x", ".", "1-", "0000000");
    }

    private static void strings() {
        good("\"\"", "\"a\"", "\" !#[]{},:~\"", "\"\\\"\"", "\"\\\\\"", "\"\\n\"", "\"\\\\n\"", "\"'/\"");
        bad("\"", "\"a", "\"\\\"", "\"\\", "\"\\t\"", "\"\\N\"", "\"\\/\"", "\"\\u0041\"", "\"\n\"", "\"\t\"",
            "\"\u007f\"", "\"\u0001\"", "\"\u001f\"", "\"a\"\"b\"", "a\"", "'a'", "\"a\"b", "\"\\ \"", "\"\\\n\"",
            "\"\t", "\"a\u007f", "\"\\t", "\"\\", "[\"\t]", "[\"\\t]");
        String longest = "\"" + "x".repeat(198) + "\"";
        good(longest, "\"" + "\\n".repeat(99) + "\"");
        bad(longest.substring(0, 199));
    }

    private static void arraysAndObjects() {
        good("[]", "[1]", "[1,2]", "[\"a\",true,[],{}]", "{}", "{\"a\":1}", "{\"a\":1,\"b\":[2]}", "{\"\":0}",
            "{\"a\":1,\"a\":2}", "{\"a\":{\"a\":{}}}", "{\"\\n\\\"\\\\\":1}");
        bad("[", "]", "[1", "[1,", "[1,]", "[,1]", "[,]", "[1 2]", "[1]]", "[[1]", "[1}", "{", "}", "{]", "{\"a\"}",
            "{\"a\":}", "{\"a\":1,}", "{,}", "{\"a\" 1}", "{a:1}", "{1:1}", "{\"a\":1 \"b\":2}", "{\"a\":1]",
            "{\"a\":1}}", "{\"a\":1},", "{:1}", "{\"a\"::1}", "[1:2]", "{\"a\",1}", "{null:1}", "[][]", "{\"a:1}",
            "{\"\\t\":1}", "{[]:1}", "{1}", "{[]}", "{{}}", "{true}", "{\"a\":1,2}", "{\"a\":1,{}}");
    }

    private static void blanks() {
        good(" 1", "1 ", "\n1\n", " [ ] ", "[ 1 , 2 ]", "[\n1\n,\n2\n]", " { } ", "\n{ \"a\" : 1 , \"b\"\n:\n2 }\n",
            "[ [ ] , { } ]");
        bad(" ", "\n", "\t1", "1\t", "\r1", "[1,\t2]", "- 1", "t rue", "1 0", "\"\\ n\"", "[1\r]");
    }

    private static void depth() {
        good("[[[[[[]]]]]]", "[[[[[[1]]]]]]", "{\"a\":{\"a\":{\"a\":{\"a\":{\"a\":{\"a\":1}}}}}}",
            "[{\"a\":[{\"a\":[{}]}]}]", "[[[[[[]]]]],[[[[[]]]]],1]", "[[[[[[],[]],[]]]]]");
        bad("[[[[[[[]]]]]]]", "[[[[[[[1]]]]]]]", "{\"a\":{\"a\":{\"a\":{\"a\":{\"a\":{\"a\":{}}}}}}}",
            "[[[[[[{}]]]]]]", "[{\"a\":[{\"a\":[{\"a\":[]}]}]}]", "[[[[[[1,[]]]]]]]", "[".repeat(200));
    }

    private static void count() {
        good("[" + "1,".repeat(38) + "1]", "[" + "[],".repeat(38) + "{}]", "[[" + "1,".repeat(37) + "1]]");
        bad("[" + "1,".repeat(39) + "1]", "[" + "[],".repeat(39) + "{}]", "[[" + "1,".repeat(38) + "1]]",
            "[" + "1,".repeat(98) + "1]");
        good("{" + "\"\":1,".repeat(32) + "\"\":1}");
        String members = "\"\":[1,1],";
        good("{" + members.repeat(12) + "\"\":[1,1]}");
        bad("{" + members.repeat(12) + "\"\":[1,1,1]}", "{" + members.repeat(13) + "\"\":1}");
    }

    private static void firstMemberCounts() {
        new Session("the first id").send("{\"id\":1,\"id\":2,\"method\":\"x\"}").errorDue(1, -32002);
        new Session("the first id, no number").send("{\"id\":null,\"id\":2,\"method\":\"x\"}").errorDue(null, -32600);
        new Session("the first method").send("{\"id\":1,\"method\":\"initialize\",\"method\":\"x\"}").resultDue(1, 0);
        new Session("the first method, no string").send("{\"id\":1,\"method\":1,\"method\":\"initialize\"}")
            .errorDue(1, -32600).stateDue(0);
        Session.ready("the first params").open("a", 1, "xy")
            .send("{\"id\":1,\"method\":\"length\",\"params\":[\"b\"],\"params\":[\"a\"]}").errorDue(1, -32602)
            .send("{\"id\":2,\"method\":\"length\",\"params\":[\"a\"],\"params\":[\"b\"]}").waitingDue(1).runDue(0, 2)
            .resultDue(2, 2);
        new Session("members of members").send("{\"a\":{\"id\":5,\"method\":\"initialize\"},\"id\":7}")
            .errorDue(7, -32600);
        new Session("members in an array").send("[{\"id\":5,\"method\":\"initialize\"}]").errorDue(null, -32600)
            .stateDue(0);
    }
}
