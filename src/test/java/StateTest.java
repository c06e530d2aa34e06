/** Promises 1, 3 and 4: messages and the states they lead to. */
final class StateTest {
    private static final Class<?> OUTSIDE = IndexOutOfBoundsException.class;

    public static void main(String[] args) {
        aNewObject();
        messages();
        whenNew();
        whenReady();
        whenDown();
        exits();
        Session.end();
    }

    private static void aNewObject() {
        new Session("new").stateDue(0).codeDue(-1).waitingDue(0).responsesDue(0).ignoredDue(0).documentsDue(0)
            .requestDue(0, OUTSIDE).requestDue(-1, OUTSIDE).runDue(0, OUTSIDE).runDue(-1, OUTSIDE)
            .responseDue(0, 0, OUTSIDE).responseDue(0, 9, OUTSIDE).responseDue(-1, 0, OUTSIDE)
            .writtenDue(0, 0, OUTSIDE).writtenDue(-1, 0, OUTSIDE)
            .documentDue(0, 0, OUTSIDE).documentDue(0, 9, OUTSIDE).documentDue(-1, 0, OUTSIDE)
            .textDue(0, 0, OUTSIDE).nameDue(0, 0, OUTSIDE).placeDue(0, 0, 0, OUTSIDE).placeDue(-1, 0, 0, OUTSIDE)
            .feedDue("", 0);
        // An object is no other one: what one was told must not show in the next.
        Session.ready("told").open("a", 1, "x").stateDue(1);
        new Session("not told").stateDue(0).documentsDue(0).responsesDue(0);
    }

    private static void messages() {
        new Session("no method").send("{}").errorDue(null, -32600).send("{\"id\":4}").errorDue(4, -32600)
            .send("{\"id\":-999999,\"params\":[]}").errorDue(-999999, -32600).send("{\"params\":1}")
            .errorDue(null, -32600).responsesDue(4).stateDue(0);
        String[] noStrings = {"1", "null", "true", "[]", "[\"initialize\"]", "{}"};
        for (String method : noStrings) {
            new Session("method " + method).send("{\"id\":3,\"method\":" + method + "}").errorDue(3, -32600)
                .send("{\"method\":" + method + "}").errorDue(null, -32600).stateDue(0);
        }
        String[] noNumbers = {"\"1\"", "null", "false", "[]", "[1]", "{}"};
        for (String id : noNumbers) {
            new Session("id " + id).send("{\"id\":" + id + ",\"method\":\"initialize\"}").errorDue(null, -32600)
                .send("{\"id\":" + id + ",\"method\":\"exit\"}").errorDue(null, -32600)
                .send("{\"id\":" + id + ",\"method\":1}").errorDue(null, -32600).stateDue(0).responsesDue(3);
        }
        new Session("any order, other members").send("{\"x\":[1],\"params\":0,\"method\":\"initialize\",\"id\":0}")
            .resultDue(0, 0).stateDue(1);
        Session.ready("bad bodies when ready").send("[").errorDue(null, -32700).send("7").errorDue(null, -32600)
            .ignoredDue(0).stateDue(1).request(1, "shutdown", "0").send("[").errorDue(null, -32700).send("7")
            .errorDue(null, -32600).stateDue(2);
    }

    private static void whenNew() {
        Session s = new Session("new");
        String[] others = {"shutdown", "length", "x", "", "exit", "Initialize", "initialize ", "open"};
        for (String method : others) {
            s.request(5, method, "null").errorDue(5, -32002).stateDue(0);
        }
        s.open("a", 1, "").notify("x", "[]").notify("initialize", "[]").notify("cancel", "[5]").documentsDue(0)
            .ignoredDue(0).stateDue(0).responsesDue(others.length);
        s.send("{\"id\":-7,\"method\":\"initialize\"}").resultDue(-7, 0).stateDue(1).codeDue(-1);
    }

    private static void whenReady() {
        Session s = Session.ready("ready");
        s.request(1, "initialize", "null").errorDue(1, -32600).stateDue(1);
        String[] unknown = {"open", "close", "change", "cancel", "exit", "x", "", "Length", "lengt", "lengths"};
        for (String method : unknown) {
            s.request(2, method, "[\"a\"]").errorDue(2, -32601);
        }
        s.stateDue(1).ignoredDue(0);
        s.request(3, "shutdown", "[1]").resultDue(3, 0).stateDue(2).codeDue(-1);
    }

    private static void whenDown() {
        Session s = Session.ready("down").open("a", 1, "xyz").request(1, "length", "[\"a\"]")
            .send("{\"id\":2,\"method\":\"shutdown\"}").stateDue(2);
        String[] any = {"initialize", "shutdown", "length", "lines", "x", "exit"};
        for (String method : any) {
            s.request(3, method, "[\"a\"]").errorDue(3, -32600).stateDue(2);
        }
        s.responsesDue(2 + any.length).open("b", 1, "").notify("close", "[\"a\"]").notify("cancel", "[1]")
            .notify("change", "[\"a\",2,\"q\"]").notify("x", "0").ignoredDue(0).documentsDue(1).waitingDue(1)
            .wholeDue(0, "a", 1, "xyz").runDue(0, 1).resultDue(1, 3);
    }

    private static void exits() {
        String exit = "{\"method\":\"exit\"}";
        new Session("exit when new").send(exit).stateDue(3).codeDue(1).responsesDue(0).ignoredDue(0);
        Session.ready("exit when ready").send(exit).stateDue(3).codeDue(1).responsesDue(1).ignoredDue(0);
        Session.ready("exit when down").request(1, "shutdown", "null").notify("exit", "[4]").stateDue(3).codeDue(0)
            .send(exit).codeDue(0).request(9, "x", "0").responsesDue(2);
        Session.ready("exit as a request").request(1, "exit", "[]").stateDue(1).codeDue(-1);
        Session.ready("run when out").open("a", 1, "xyz").request(4, "length", "[\"a\"]").send(exit).stateDue(3)
            .waitingDue(1).runDue(0, 4).resultDue(4, 3).waitingDue(0).documentsDue(1);
        Session.ready("run when closed").open("a", 1, "xyz").request(4, "length", "[\"a\"]").feedDue("x", 3)
            .stateDue(4).waitingDue(1).requestDue(0, 4).runDue(0, 4).resultDue(4, 3).waitingDue(0);
    }
}
