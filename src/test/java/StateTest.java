/** THE STATE, and promises 3 and 4; each method quotes the sentence it holds the program to. */
final class StateTest {
    private static final String EXIT = "{'method':'exit'}";
    private static final String[] NOTIFICATIONS = {"initialize", "shutdown", "length", "x", ""};

    public static void main(String[] args) {
        numbersOfTheStates();
        initializeWhenNew();
        anotherRequestWhenNew();
        initializeWhenReady();
        shutdownWhenReady();
        anyRequestWhenDown();
        exits();
        codes();
        outStays();
        closedStays();
        otherNotificationsWhenNew();
        otherNotificationsWhenReady();
        otherNotificationsWhenDown();
        Session.end();
    }

    private static Session down(String title) {
        return Session.ready(title).say("{'id':1,'method':'shutdown'}");
    }

    /** "THE STATE: 0 NEW, 1 READY, 2 DOWN, 3 OUT, 4 CLOSED" */
    private static void numbersOfTheStates() {
        new Session("states").stateDue(0).request(1, "initialize", "0").stateDue(1).request(2, "shutdown", "0")
            .stateDue(2).say(EXIT).stateDue(3);
        new Session("closed when new").stateDue(0).feedDue("x", 0).stateDue(4);
        Session.ready("closed when ready").stateDue(1).feedDue("x", 1).stateDue(4);
        down("closed when down").stateDue(2).feedDue("x", 2).stateDue(4);
    }

    /** "NEW: the request initialize makes it READY, result 0" */
    private static void initializeWhenNew() {
        new Session("initialize").stateDue(0).say("{'id':-7,'method':'initialize'}").resultDue(-7, 0).stateDue(1)
            .codeDue(-1).responsesDue(1);
        for (String params : new String[] {"null", "[]", "{}", "[1]", "'x'"}) {
            new Session("initialize with " + params).request(1, "initialize", params).resultDue(1, 0).stateDue(1);
        }
    }

    /** "another request: error -32002" */
    private static void anotherRequestWhenNew() {
        Session s = new Session("new");
        String[] others = {"shutdown", "length", "x", "", "exit", "Initialize", "initialize ", "initializ", "open"};
        for (String method : others) {
            s.request(5, method, "['a']").errorDue(5, -32002).stateDue(0);
        }
        s.responsesDue(others.length).waitingDue(0).ignoredDue(0).codeDue(-1);
    }

    /** "READY: initialize: error -32600." */
    private static void initializeWhenReady() {
        Session.ready("ready").request(1, "initialize", "null").errorDue(1, -32600).stateDue(1).responsesDue(2)
            .request(2, "initialize", "[]").errorDue(2, -32600).stateDue(1);
    }

    /** "shutdown: DOWN, result 0." */
    private static void shutdownWhenReady() {
        Session.ready("shutdown").request(3, "shutdown", "[1]").resultDue(3, 0).stateDue(2).codeDue(-1);
        Session.ready("almost shutdown").request(3, "shutdow", "0").errorDue(3, -32601).request(4, "Shutdown", "0")
            .errorDue(4, -32601).stateDue(1).say("{'id':5,'method':'shutdown'}").resultDue(5, 0).stateDue(2);
    }

    /** "DOWN: any request: error -32600." */
    private static void anyRequestWhenDown() {
        Session s = Session.withText("down", "xyz").request(1, "length", "['a']").say("{'id':2,'method':'shutdown'}")
            .stateDue(2);
        String[] any = {"initialize", "shutdown", "length", "index", "at", "lines", "x", "", "exit"};
        for (String method : any) {
            s.request(3, method, "['a']").errorDue(3, -32600).stateDue(2);
        }
        s.responsesDue(2 + any.length).waitingDue(1).requestDue(0, 1).ignoredDue(0);
    }

    /** "The notification exit: OUT, from any of these" */
    private static void exits() {
        new Session("exit when new").say(EXIT).stateDue(3).responsesDue(0).ignoredDue(0);
        Session.ready("exit when ready").say(EXIT).stateDue(3).responsesDue(1).ignoredDue(0);
        down("exit when down").say(EXIT).stateDue(3).responsesDue(2).ignoredDue(0);
        Session.ready("exit with parameters").notify("exit", "[4]").stateDue(3).ignoredDue(0);
        Session.ready("almost exit").notify("exi", "[]").notify("exits", "[]").notify("Exit", "[]").stateDue(1)
            .ignoredDue(3);
        new Session("exit as a request when new").request(1, "exit", "[]").stateDue(0).errorDue(1, -32002);
        Session.ready("exit as a request").request(1, "exit", "[]").stateDue(1).errorDue(1, -32601).codeDue(-1);
    }

    /** "the CODE is 0 then if it was DOWN, else 1"; "-1 if the server is not OUT" */
    private static void codes() {
        new Session("new").codeDue(-1).say(EXIT).codeDue(1);
        Session.ready("ready").codeDue(-1).say(EXIT).codeDue(1);
        down("down").codeDue(-1).say(EXIT).codeDue(0);
        new Session("closed when new").feedDue("x", 0).codeDue(-1).say(EXIT).codeDue(-1);
        down("closed when down").feedDue("x", 2).stateDue(4).codeDue(-1).say(EXIT).codeDue(-1);
    }

    /** "OUT and CLOSED stay, and all further input is passed over." */
    private static void outStays() {
        new Session("out").say(EXIT).feedDue("1:1", 1).feedDue("x", 1).stateDue(3).codeDue(1).responsesDue(0);
        new Session("out, then initialize").say(EXIT).request(1, "initialize", "0").stateDue(3).responsesDue(0)
            .feedDue("\0", 1);
        down("out from down").say(EXIT).say(EXIT).stateDue(3).codeDue(0).request(9, "x", "0").responsesDue(2);
        new Session("out within four").feedDue("17:{\"method\":\"exit\"}x", 1).stateDue(3).codeDue(1);
        new Session("a body behind exit in one call").feedDue("17:{\"method\":\"exit\"", 0).feedDue("}1:1", 1)
            .stateDue(3).responsesDue(0);
        Session.withText("out with documents and waiting", "xyz").request(4, "length", "['a']").say(EXIT)
            .notify("close", "['a']").notify("cancel", "[4]").notify("x", "0").waitingDue(1).documentsDue(1)
            .ignoredDue(0).wholeDue(0, "a", 1, "xyz").runDue(0, 4).resultDue(4, 3).waitingDue(0);
    }

    private static void closedStays() {
        new Session("closed").feedDue("x", 0).say(EXIT).stateDue(4).codeDue(-1).request(1, "initialize", "0")
            .feedDue("1:1", 0).stateDue(4).responsesDue(0);
        new Session("closed by one of four").feedDue("x1:1", 0).stateDue(4).responsesDue(0);
        Session.withText("closed with documents and waiting", "xyz").request(4, "length", "['a']").feedDue("x", 3)
            .stateDue(4).notify("close", "['a']").notify("cancel", "[4]").notify("x", "0").waitingDue(1).documentsDue(1)
            .ignoredDue(0).requestDue(0, 4).runDue(0, 4).resultDue(4, 3).waitingDue(0).stateDue(4);
    }

    /** "Other notifications count in READY alone, and are passed over otherwise." */
    private static void otherNotificationsWhenNew() {
        Session s = new Session("notifications when new").open("a", 1, "").notify("close", "['a']")
            .notify("cancel", "[5]");
        for (String method : NOTIFICATIONS) {
            s.notify(method, "['a']");
        }
        s.documentsDue(0).ignoredDue(0).stateDue(0).responsesDue(0).codeDue(-1).request(1, "initialize", "0")
            .documentsDue(0).ignoredDue(0);
    }

    private static void otherNotificationsWhenReady() {
        Session s = Session.ready("notifications when ready").open("a", 1, "").documentsDue(1).ignoredDue(0);
        for (int i = 0; i < NOTIFICATIONS.length; i++) {
            s.notify(NOTIFICATIONS[i], "['a']").ignoredDue(i + 1).stateDue(1).waitingDue(0).responsesDue(1);
        }
    }

    private static void otherNotificationsWhenDown() {
        Session s = Session.withText("notifications when down", "xyz").request(1, "length", "['a']")
            .say("{'id':2,'method':'shutdown'}").open("b", 1, "").notify("close", "['a']").notify("cancel", "[1]")
            .notify("change", "['a',2,'q']");
        for (String method : NOTIFICATIONS) {
            s.notify(method, "['a']");
        }
        s.ignoredDue(0).documentsDue(1).waitingDue(1).responsesDue(2).stateDue(2).wholeDue(0, "a", 1, "xyz")
            .runDue(0, 1).resultDue(1, 3);
    }
}
