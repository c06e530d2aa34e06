/** Responses, how many are kept and how they are WRITTEN (promises 8 to 10); each method quotes its sentence. */
final class ResponseTest {
    public static void main(String[] args) {
        inTheOrderInWhichTheyAreGiven();
        firstSixty();
        whatIsDoneWhenSixtyAreKept();
        partsOfAResponse();
        noSuchResponse();
        noSuchWhat();
        written();
        writtenOutside();
        Session.end();
    }

    /** "Responses are kept in the order in which they are given" */
    private static void inTheOrderInWhichTheyAreGiven() {
        Session.withText("order", "x").request(1, "length", "['a']").request(2, "x", "0").request(3, "lines", "['a']")
            .runDue(1, 3).runDue(0, 1).responseDue(0, 0, 0).responseDue(1, 0, 2).responseDue(2, 0, 3)
            .responseDue(3, 0, 1).responsesDue(4);
    }

    private static Session answered(String title, int responses) {
        Session s = new Session(title);
        for (int i = 0; i < responses; i++) {
            s.feedDue(i % 2 == 0 ? "1:[" : "1:0", i + 1);
        }
        return s;
    }

    /** "the first 60"; "How many responses are kept." */
    private static void firstSixty() {
        for (int given = 58; given <= 63; given++) {
            Session s = answered(given + " responses", given).responsesDue(Math.min(given, 60))
                .responseDue(0, 3, -32700).responseDue(1, 3, -32600).responseDue(57, 3, -32600);
            for (int k = 58; k <= 63; k++) {
                boolean kept = k < given && k < 60;
                s.responseDue(k, 3, kept ? (Object) (k % 2 == 0 ? -32700 : -32600) : Session.OUTSIDE);
                s.writtenDue(k, 0, kept ? (Object) '2' : Session.OUTSIDE);
            }
        }
    }

    private static void whatIsDoneWhenSixtyAreKept() {
        Session s = answered("59 and more", 58).request(1, "initialize", "0").responsesDue(59).open("a", 1, "xyz")
            .request(2, "length", "['a']").request(3, "length", "['a']").request(4, "length", "['a']").runDue(1, 3)
            .responsesDue(60).resultDue(3, 3);
        s.runDue(0, 2).waitingDue(1).responsesDue(60).resultDue(3, 3).notify("cancel", "[4]").waitingDue(0)
            .ignoredDue(0).responsesDue(60).resultDue(3, 3);
        s.request(9, "shutdown", "0").stateDue(2).responsesDue(60).resultDue(3, 3).responseDue(58, 0, 1)
            .responseDue(60, 0, Session.OUTSIDE).writtenDue(60, 0, Session.OUTSIDE);
    }

    /**
     * "A response has an id or none, and a RESULT or an ERROR, a number."
     *
     * "its id (what = 0; 0 without), 1 if it has one, else 0 (1), 1 if it has a result, 0 if an error (2),
     * that (3)"
     */
    private static void partsOfAResponse() {
        Session s = Session.ready("parts").send("[").request(-4, "x", "0").send("7").open("a", 1, "xyz")
            .request(123456, "length", "['a']").runDue(0, 123456);
        int[][] due = {{0, 1, 1, 0}, {0, 0, 0, -32700}, {-4, 1, 0, -32601}, {0, 0, 0, -32600}, {123456, 1, 1, 3}};
        for (int k = 0; k < due.length; k++) {
            for (int what = 0; what < 4; what++) {
                s.responseDue(k, what, due[k][what]);
            }
        }
    }

    /** "IndexOutOfBoundsException if there is none"; "IndexOutOfBoundsException if there is no such response." */
    private static void noSuchResponse() {
        new Session("none").responseDue(0, 0, Session.OUTSIDE).writtenDue(0, 0, Session.OUTSIDE);
        Session s = Session.ready("two").send("[").responseDue(1, 0, 0).writtenDue(1, 0, '2');
        for (int k : new int[] {-1, 2, 59, 60, Integer.MIN_VALUE, Integer.MAX_VALUE}) {
            for (int what = 0; what < 4; what++) {
                s.responseDue(k, what, Session.OUTSIDE);
            }
            s.writtenDue(k, 0, Session.OUTSIDE).writtenDue(k, -1, Session.OUTSIDE).writtenDue(k, 99, Session.OUTSIDE);
        }
    }

    /** "IllegalArgumentException if there is no such what"; the index is looked at first, as it is told first. */
    private static void noSuchWhat() {
        Session s = Session.ready("what").responseDue(0, 0, 0).responseDue(0, 3, 0);
        for (int what : new int[] {-1, 4, Integer.MIN_VALUE, Integer.MAX_VALUE}) {
            s.responseDue(0, what, Session.NO_SUCH).responseDue(1, what, Session.OUTSIDE)
                .responseDue(-1, what, Session.OUTSIDE);
        }
        s.responsesDue(1);
    }

    /**
     * "WRITTEN they are a frame, the body {"id":i,"result":r} or {"id":i,"error":e}, i being null without id"
     *
     * "Character i of response k, written"
     */
    private static void written() {
        Session s = Session.ready("written").send("[").request(-999999, "x", "0").open("a", 1, "x".repeat(60))
            .request(123456, "length", "['a']").runDue(0, 123456).send("{\"id\":0}");
        s.writtenDue(0, "19:{\"id\":0,\"result\":0}");
        s.writtenDue(1, "26:{\"id\":null,\"error\":-32700}");
        s.writtenDue(2, "29:{\"id\":-999999,\"error\":-32601}");
        s.writtenDue(3, "25:{\"id\":123456,\"result\":60}");
        s.writtenDue(4, "23:{\"id\":0,\"error\":-32600}");
        // The shorter one again behind the longer one: nothing of the longer one may be left.
        s.writtenDue(0, 21, '}').writtenDue(0, 22, '\0').writtenDue(0, 23, '\0').writtenDue(0, 31, '\0');
        Session.withText("written results", "~").request(9, "at", "['a',0,0]").runDue(0, 9)
            .writtenDue(1, "21:{\"id\":9,\"result\":126}");
    }

    /** "0 if i is not below its length, or below 0" */
    private static void writtenOutside() {
        Session s = Session.ready("outside").writtenDue(0, 0, '1').writtenDue(0, 21, '}');
        for (int i : new int[] {-1, -2, 22, 23, 60, 1000, Integer.MIN_VALUE, Integer.MAX_VALUE}) {
            s.writtenDue(0, i, '\0');
        }
    }
}
