/** Promise 1, and how long an object is used; each method quotes the sentence it holds the program to. */
final class LifeTest {
    private static final int CALLS = 512;

    public static void main(String[] args) {
        newObject();
        objectsAreApart();
        lastCallOfManyBodies();
        lastCallOfManyRequests();
        lastCallOfManyDocuments();
        refusedCallsChangeNothing();
        laterCallsEnd();
        Session.end();
    }

    /** "NEW; no documents, nothing waits, no responses." */
    private static void newObject() {
        new Session("new").stateDue(0).codeDue(-1).waitingDue(0).responsesDue(0).ignoredDue(0).documentsDue(0)
            .requestDue(0, Session.OUTSIDE).runDue(0, Session.OUTSIDE).responseDue(0, 0, Session.OUTSIDE)
            .writtenDue(0, 0, Session.OUTSIDE).documentDue(0, 0, Session.OUTSIDE).textDue(0, 0, Session.OUTSIDE)
            .nameDue(0, 0, Session.OUTSIDE).placeDue(0, 0, 0, Session.OUTSIDE).feedDue("\0", 0);
    }

    private static void objectsAreApart() {
        Session told = Session.withText("told", "x").request(1, "length", "['a']").notify("x", "0");
        new Session("not told").stateDue(0).documentsDue(0).responsesDue(0).waitingDue(0).ignoredDue(0)
            .feedDue("1:1", 1);
        told.stateDue(1).documentsDue(1).waitingDue(1).responsesDue(1).ignoredDue(1);
    }

    private static void callsDue(Session s) {
        s.due("calls so far", s::calls, CALLS);
    }

    /** "An object is used for at most 512 calls": as many bodies as they can hold, and the last call as good as any. */
    private static void lastCallOfManyBodies() {
        Session s = new Session("512 calls of bodies");
        String input = "1:0".repeat(683).substring(0, 4 * CALLS);
        s.feedDue(input.substring(0, input.length() - 4), 681).feedDue(input.substring(input.length() - 4), 682);
        callsDue(s);
        Session t = new Session("511 calls of bodies, and a look");
        t.feedDue(input.substring(0, input.length() - 4), 681).responsesDue(60);
        callsDue(t);
    }

    private static void lastCallOfManyRequests() {
        Session s = Session.withText("512 calls of requests", "xyz");
        int id = 0;
        while (s.calls() < CALLS - 25) {
            id++;
            s.request(id, "length", "['a']").runDue(0, id);
        }
        s.request(999, "length", "['a']");
        while (s.calls() < CALLS - 1) {
            s.waitingDue(1);
        }
        s.runDue(0, 999);
        callsDue(s);
    }

    private static void lastCallOfManyDocuments() {
        Session s = Session.ready("512 calls of documents");
        int version = 0;
        while (s.calls() < CALLS - 40) {
            version++;
            s.open("a", version, "xyz").notify("close", "['a']");
        }
        s.open("b", 7, "q");
        while (s.calls() < CALLS - 1) {
            s.documentsDue(1);
        }
        s.documentDue(0, 0, 7);
        callsDue(s);
    }

    private static void refusedCallsChangeNothing() {
        Session s = Session.withText("refused calls", "xyz").request(4, "length", "['a']").feedDue("1:", 3);
        for (int far : new int[] {Integer.MIN_VALUE, Integer.MAX_VALUE}) {
            s.requestDue(far, Session.OUTSIDE).runDue(far, Session.OUTSIDE).responseDue(far, 0, Session.OUTSIDE)
                .responseDue(0, far, Session.NO_SUCH).writtenDue(far, 0, Session.OUTSIDE)
                .documentDue(far, 0, Session.OUTSIDE).documentDue(0, far, Session.NO_SUCH)
                .textDue(far, 0, Session.OUTSIDE).textDue(0, far, Session.OUTSIDE).nameDue(far, 0, Session.OUTSIDE)
                .nameDue(0, far, Session.OUTSIDE).placeDue(far, 0, 0, Session.OUTSIDE);
        }
        s.stateDue(1).codeDue(-1).waitingDue(1).requestDue(0, 4).responsesDue(1).ignoredDue(0)
            .wholeDue(0, "a", 1, "xyz").feedDue("1", 4).errorDue(null, -32600).runDue(0, 4).resultDue(4, 3);
    }

    /** What later calls answer is free, but LANGUAGE.md lets none of them throw by itself. */
    private static void laterCallsEnd() {
        EditorServer server = new EditorServer();
        Session s = new Session("later calls");
        s.due("20000 calls", () -> {
            int bodies = 0;
            for (int i = 0; i < 20000; i++) {
                bodies = server.feed('1' | ':' << 8 | '7' << 16);
            }
            return bodies > 0;
        }, true);
    }
}
