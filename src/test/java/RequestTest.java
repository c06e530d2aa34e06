/** Promises 5 to 10: requests that wait, are run or cancelled, and the responses. */
final class RequestTest {
    private static final Class<?> OUTSIDE = IndexOutOfBoundsException.class;
    private static final Class<?> NO_SUCH = IllegalArgumentException.class;

    public static void main(String[] args) {
        results();
        noSuchCharacter();
        theTextAsItWas();
        wrongParameters();
        eightWait();
        runInAnyOrder();
        cancels();
        responsesOfAllKinds();
        writtenResponses();
        sixtyAreKept();
        Session.end();
    }

    private static void answer(String text, String method, String params, int result) {
        Session.ready(method + " " + params + " of " + text).open("a", 1, text).request(5, method, params)
            .waitingDue(1).responsesDue(1).requestDue(0, 5).runDue(0, 5).waitingDue(0).responsesDue(2)
            .resultDue(5, result);
    }

    private static void results() {
        answer("", "length", "[\"a\"]", 0);
        answer("a\\n~\\\"", "length", "[\"a\"]", 4);
        answer("x".repeat(60), "length", "[\"a\"]", 60);
        answer("", "lines", "[\"a\"]", 1);
        answer("abc", "lines", "[\"a\"]", 1);
        answer("a\\nb", "lines", "[\"a\"]", 2);
        answer("a\\nb\\n", "lines", "[\"a\"]", 3);
        answer("abcabc", "index", "[\"a\",\"b\"]", 1);
        answer("abcabc", "index", "[\"a\",\"a\"]", 0);
        answer("ab\\ncd", "index", "[\"a\",\"\\n\"]", 2);
        answer("ab\\\\", "index", "[\"a\",\"\\\\\"]", 2);
        answer("ab\\n~c", "at", "[\"a\",0,0]", 'a');
        answer("ab\\n~c", "at", "[\"a\",0,5]", 10);
        answer("ab\\n~c", "at", "[\"a\",1,1]", '~');
        answer("ab\\n~c", "at", "[\"a\",1,2]", 'c');
        answer("ab\\n~c", "at", "[\"a\",-1,2]", 'a');
        answer("ab\\n~c", "at", "[\"a\",1,-2]", '~');
    }

    private static void noCharacter(String text, String method, String params) {
        Session.ready(method + " " + params + " of " + text).open("a", 1, text).request(5, method, params)
            .waitingDue(1).runDue(0, 5).waitingDue(0).errorDue(5, -32603).responsesDue(2);
    }

    private static void noSuchCharacter() {
        noCharacter("abc", "index", "[\"a\",\"d\"]");
        noCharacter("", "index", "[\"a\",\"d\"]");
        noCharacter("abc", "at", "[\"a\",0,3]");
        noCharacter("abc", "at", "[\"a\",1,0]");
        noCharacter("", "at", "[\"a\",0,0]");
        noCharacter("", "at", "[\"a\",-1,0]");
        noCharacter("a\\n", "at", "[\"a\",1,0]");
        Session.ready("what was in a text").open("a", 1, "abc").request(1, "length", "[\"a\"]").runDue(0, 1)
            .notify("change", "[\"a\",2,\"a\"]").request(2, "index", "[\"a\",\"b\"]")
            .request(3, "at", "[\"a\",0,1]").runDue(0, 2).errorDue(2, -32603).runDue(0, 3).errorDue(3, -32603);
    }

    private static void theTextAsItWas() {
        Session s = Session.ready("as it was").open("a", 1, "ab\\nc");
        s.request(1, "length", "[\"a\"]").request(2, "index", "[\"a\",\"b\"]").request(3, "at", "[\"a\",1,0]")
            .request(4, "lines", "[\"a\"]").notify("change", "[\"a\",2,\"\"]").request(5, "length", "[\"a\"]")
            .notify("close", "[\"a\"]").open("a", 1, "bbbbbbb").request(6, "length", "[\"a\"]").waitingDue(6);
        s.runDue(0, 1).resultDue(1, 4).runDue(0, 2).resultDue(2, 1).runDue(0, 3).resultDue(3, 'c')
            .runDue(0, 4).resultDue(4, 2).runDue(0, 5).resultDue(5, 0).runDue(0, 6).resultDue(6, 7).waitingDue(0);
    }

    private static void wrongParameters() {
        String[][] wrong = {
            {"length", "[]", "null", "\"a\"", "[\"b\"]", "[1]", "[\"a\",1]", "[\"a\",\"a\"]", "{\"a\":\"a\"}", "[\"\"]",
                "[\"aa\"]", "[[\"a\"]]"},
            {"lines", "[]", "null", "\"a\"", "[\"b\"]", "[null]", "[\"a\",1]", "[\"a\",\"a\"]", "{\"a\":\"a\"}"},
            {"index", "[]", "[\"a\"]", "[\"a\",\"\"]", "[\"a\",\"bc\"]", "[\"a\",1]", "[\"b\",\"b\"]", "[\"b\",\"\"]",
                "[\"a\",\"b\",\"c\"]", "[\"a\",null]", "[1,\"b\"]", "{\"a\":\"a\",\"b\":\"b\"}"},
            {"at", "[]", "[\"a\"]", "[\"a\",0]", "[\"a\",0,\"0\"]", "[\"a\",\"0\",0]", "[0,0,0]", "[\"b\",0,0]",
                "[\"a\",0,0,0]", "[\"a\",null,0]", "[\"a\",[0,0]]", "null"}};
        for (String[] row : wrong) {
            Session s = Session.ready(row[0]).open("a", 1, "bab");
            for (int i = 1; i < row.length; i++) {
                s.request(i, row[0], row[i]).errorDue(i, -32602).waitingDue(0).responsesDue(1 + i);
            }
            s.send("{\"id\":77,\"method\":\"" + row[0] + "\"}").errorDue(77, -32602).waitingDue(0).ignoredDue(0);
        }
    }

    private static void eightWait() {
        Session s = Session.ready("eight").open("a", 1, "x");
        for (int id = 1; id <= 8; id++) {
            s.request(id, "length", "[\"a\"]").waitingDue(id);
        }
        s.responsesDue(1).request(9, "length", "[\"a\"]").errorDue(9, -32803).waitingDue(8)
            .request(10, "length", "[\"b\"]").errorDue(10, -32602).request(11, "x", "[]").errorDue(11, -32601)
            .requestDue(7, 8).requestDue(8, OUTSIDE).runDue(8, OUTSIDE).waitingDue(8).responsesDue(4)
            .runDue(7, 8).request(12, "lines", "[\"a\"]").waitingDue(8).requestDue(7, 12);
    }

    private static void runInAnyOrder() {
        Session s = Session.ready("any order").open("a", 1, "x");
        s.request(10, "length", "[\"a\"]").notify("change", "[\"a\",2,\"xx\"]").request(-20, "length", "[\"a\"]")
            .notify("change", "[\"a\",3,\"xxx\"]").request(30, "length", "[\"a\"]")
            .notify("change", "[\"a\",4,\"xxxx\"]").request(10, "length", "[\"a\"]");
        s.requestDue(0, 10).requestDue(1, -20).requestDue(2, 30).requestDue(3, 10).requestDue(4, OUTSIDE)
            .requestDue(-1, OUTSIDE).requestDue(Integer.MIN_VALUE, OUTSIDE).requestDue(Integer.MAX_VALUE, OUTSIDE);
        s.runDue(4, OUTSIDE).runDue(-1, OUTSIDE).waitingDue(4).responsesDue(1);
        s.runDue(1, -20).resultDue(-20, 2).requestDue(0, 10).requestDue(1, 30).requestDue(2, 10).waitingDue(3);
        s.runDue(2, 10).resultDue(10, 4).runDue(1, 30).resultDue(30, 3).runDue(0, 10).resultDue(10, 1).waitingDue(0)
            .runDue(0, OUTSIDE).responsesDue(5);
        Session t = Session.ready("one goes and one comes").open("a", 1, "x").request(1, "length", "[\"a\"]")
            .request(2, "length", "[\"a\"]").runDue(0, 1).request(3, "at", "[\"a\",0,0]");
        t.waitingDue(2).requestDue(0, 2).requestDue(1, 3).runDue(0, 2).resultDue(2, 1).runDue(0, 3).resultDue(3, 'x');
    }

    private static void cancels() {
        Session s = Session.ready("cancel").open("a", 1, "x").request(5, "length", "[\"a\"]")
            .request(6, "length", "[\"a\"]").notify("change", "[\"a\",2,\"xx\"]").request(5, "length", "[\"a\"]");
        s.notify("cancel", "[5]").errorDue(5, -32800).waitingDue(2).requestDue(0, 6).requestDue(1, 5).ignoredDue(0);
        s.runDue(1, 5).resultDue(5, 2).notify("cancel", "[5]").ignoredDue(1).waitingDue(1).responsesDue(3);
        String[] wrong = {"[]", "[7]", "[\"6\"]", "6", "[6,6]", "null", "[null]", "[[6]]", "{\"id\":6}", "[-6]"};
        for (int i = 0; i < wrong.length; i++) {
            s.notify("cancel", wrong[i]).ignoredDue(2 + i).waitingDue(1).responsesDue(3);
        }
        s.notify("cancel", "[6]").errorDue(6, -32800).waitingDue(0).ignoredDue(1 + wrong.length);
    }

    private static void responsesOfAllKinds() {
        Session s = Session.ready("kinds").send("[").request(-4, "x", "0");
        int[][] due = {{0, 1, 1, 0}, {0, 0, 0, -32700}, {-4, 1, 0, -32601}};
        for (int k = 0; k < due.length; k++) {
            for (int what = 0; what < 4; what++) {
                s.responseDue(k, what, due[k][what]);
            }
            s.responseDue(k, 4, NO_SUCH).responseDue(k, -1, NO_SUCH).responseDue(k, Integer.MIN_VALUE, NO_SUCH);
        }
        s.responseDue(3, 0, OUTSIDE).responseDue(3, 4, OUTSIDE).responseDue(-1, 0, OUTSIDE).responseDue(-1, -1, OUTSIDE)
            .responseDue(Integer.MAX_VALUE, 0, OUTSIDE).responseDue(59, 0, OUTSIDE).responseDue(60, 0, OUTSIDE);
    }

    private static void writtenResponses() {
        Session s = Session.ready("written").send("[").request(-999999, "x", "0").open("a", 1, "x".repeat(60))
            .request(123456, "length", "[\"a\"]").runDue(0, 123456);
        s.writtenDue(0, "19:{\"id\":0,\"result\":0}");
        s.writtenDue(1, "26:{\"id\":null,\"error\":-32700}");
        s.writtenDue(2, "29:{\"id\":-999999,\"error\":-32601}");
        s.writtenDue(3, "25:{\"id\":123456,\"result\":60}");
        s.writtenDue(4, 0, OUTSIDE).writtenDue(-1, 0, OUTSIDE).writtenDue(4, -1, OUTSIDE).writtenDue(60, 0, OUTSIDE);
        s.writtenDue(0, Integer.MAX_VALUE, '\0').writtenDue(0, Integer.MIN_VALUE, '\0').writtenDue(0, 1000, '\0');
    }

    private static void sixtyAreKept() {
        Session s = new Session("sixty");
        for (int i = 0; i < 50; i++) {
            s.feedDue("1:[", i + 1);
        }
        s.responsesDue(50).send("{\"id\":1,\"method\":\"initialize\"}").open("a", 1, "xyz")
            .request(2, "length", "[\"a\"]").request(3, "length", "[\"a\"]");
        for (int i = 0; i < 8; i++) {
            s.input("1:0");
        }
        s.responsesDue(59).runDue(0, 2).responsesDue(60).resultDue(2, 3).input("1:[");
        s.responsesDue(60).resultDue(2, 3).runDue(0, 3).waitingDue(0).responsesDue(60).resultDue(2, 3)
            .responseDue(60, 0, OUTSIDE).writtenDue(60, 0, OUTSIDE).responseDue(0, 3, -32700).responseDue(50, 3, 0)
            .responseDue(50, 0, 1).request(9, "shutdown", "0").stateDue(2).responsesDue(60);
    }
}
