/** Requests in READY, how they wait and are run (promises 5 to 7); each method quotes its sentence. */
final class RequestTest {
    private static final String[] METHODS = {"length", "index", "at", "lines"};
    private static final String[] GOOD = {"['a']", "['a','x']", "['a',0,0]", "['a']"};

    public static void main(String[] args) {
        lengthOf();
        indexOf();
        characterAt();
        linesOf();
        anotherMethod();
        notTheseParameters();
        parametersEndWhereTheirArrayEnds();
        stringOfOneCharacter();
        noSuchDocument();
        eightWait();
        orderOfErrors();
        waitsWithTheTextAsItIsThen();
        inTheOrderInWhichTheyCame();
        runInAnyOrder();
        runInAnyState();
        noSuchRequest();
        noSuchCharacter();
        sameIds();
        Session.end();
    }

    /**
     * "Requests in READY: length [name], .. at [name, line, units], lines [name]."
     *
     * What is asked waits without an answer, and is answered when it is run.
     */
    private static Session asked(String text, String method, String params) {
        return Session.withText(method + " " + params + " of " + text, text).waitingDue(0).request(5, method, params)
            .waitingDue(1).responsesDue(1).requestDue(0, 5).runDue(0, 5).waitingDue(0).responsesDue(2);
    }

    /** "of length how many characters" */
    private static void lengthOf() {
        asked("", "length", "['a']").resultDue(5, 0);
        asked("~", "length", "['a']").resultDue(5, 1);
        asked("a\\n~\\\\", "length", "['a']").resultDue(5, 4);
        asked("x".repeat(60), "length", "['a']").resultDue(5, 60);
    }

    /** "of index the place of the first such character" */
    private static void indexOf() {
        asked("abcabc", "index", "['a','a']").resultDue(5, 0);
        asked("abcabc", "index", "['a','b']").resultDue(5, 1);
        asked("abcabd", "index", "['a','d']").resultDue(5, 5);
        asked("x".repeat(59) + "y", "index", "['a','y']").resultDue(5, 59);
        asked("~~b", "index", "['a','b']").resultDue(5, 2);
        asked("a\\nbcb", "index", "['a','b']").resultDue(5, 2);
    }

    /** "of at the character at that position" */
    private static void characterAt() {
        asked("ab\\n~c", "at", "['a',0,0]").resultDue(5, 'a');
        asked("ab\\n~c", "at", "['a',1,2]").resultDue(5, 'c');
        asked("ab\\n~c", "at", "['a',0,2]").resultDue(5, 10);
        asked(" ", "at", "['a',0,0]").resultDue(5, 32);
        asked("~", "at", "['a',0,1]").resultDue(5, 126);
    }

    /** "of lines how many lines" */
    private static void linesOf() {
        asked("", "lines", "['a']").resultDue(5, 1);
        asked("abc", "lines", "['a']").resultDue(5, 1);
        asked("a\\nb", "lines", "['a']").resultDue(5, 2);
        asked("a\\nb\\n", "lines", "['a']").resultDue(5, 3);
        asked("\\n".repeat(60), "lines", "['a']").resultDue(5, 61);
    }

    /** "Another method: error -32601." */
    private static void anotherMethod() {
        Session s = Session.withText("another method", "x");
        int id = 1;
        for (String method : new String[] {"open", "close", "change", "cancel", "exit", "x", "", "Length", "lengt",
            "lengths", "inde", "indexx", "a", "att", "line", "liness"}) {
            s.request(id, method, "['a']").errorDue(id, -32601);
            id++;
        }
        s.stateDue(1).ignoredDue(0).waitingDue(0).documentsDue(1);
    }

    private static void refused(String method, String... params) {
        Session s = Session.withText(method, "bab");
        for (int i = 0; i < params.length; i++) {
            s.request(i, method, params[i]).errorDue(i, -32602).waitingDue(0).responsesDue(2 + i);
        }
        s.say("{'id':77,'method':'" + method + "'}").errorDue(77, -32602).waitingDue(0).ignoredDue(0);
    }

    /** "Not these parameters ..: error -32602." */
    private static void notTheseParameters() {
        for (String method : new String[] {"length", "lines"}) {
            refused(method, "[]", "null", "'a'", "1", "{}", "[1]", "[null]", "['a',1]", "['a','a']", "['a',null]",
                "{'a':'a'}", "[['a']]", "['a',[]]");
        }
        refused("index", "[]", "null", "'a'", "['a']", "['a',1]", "['a',null]", "['a',['b']]", "[1,'b']", "[null,'b']",
            "['a','b','c']", "['a','b',1]", "{'a':'a','b':'b'}", "[['a','b']]");
        refused("at", "[]", "null", "'a'", "['a']", "['a',0]", "['a',0,'0']", "['a','0',0]", "['a',0,null]",
            "['a',null,0]", "[0,0,0]", "['a',0,0,0]", "['a',[0,0]]", "{'a':'a','b':0,'c':0}", "[0,0,'a']");
    }

    /** What stands behind the array in the message is none of its parameters. */
    private static void parametersEndWhereTheirArrayEnds() {
        String[] bodies = {"'length','params':[],'x':'a'", "'lines','params':[],'x':'a'",
            "'index','params':['a'],'x':'b'", "'index','params':[],'x':'a','y':'b'", "'at','params':['a'],'x':0,'y':0",
            "'at','params':['a',0],'y':0", "'at','params':['a',[0],0]"};
        for (String body : bodies) {
            Session.withText("body " + body, "bab").say("{'id':3,'method':" + body + "}").errorDue(3, -32602)
                .waitingDue(0);
        }
    }

    /** "index [name, string of one character]" */
    private static void stringOfOneCharacter() {
        refused("index", "['a','']", "['a','bc']", "['a','bab']", "['a','\\n\\n']", "['a','\\\\n']");
        asked("bab", "index", "['a','b']").resultDue(5, 0);
        asked("ab\\ncd", "index", "['a','\\n']").resultDue(5, 2);
        asked("ab\\\\", "index", "['a','\\\\']").resultDue(5, 2);
        Session.withText("a quote", "ab\\\"").send("{\"id\":5,\"method\":\"index\",\"params\":[\"a\",\"\\\"\"]}")
            .waitingDue(1).runDue(0, 5).resultDue(5, 2);
    }

    /** "or no such document: error -32602" */
    private static void noSuchDocument() {
        for (int i = 0; i < METHODS.length; i++) {
            String others = GOOD[i];
            Session.ready(METHODS[i] + " of none").request(1, METHODS[i], others).errorDue(1, -32602).waitingDue(0)
                .open("b", 1, "").request(2, METHODS[i], others).errorDue(2, -32602).open("aa", 1, "")
                .request(3, METHODS[i], others).errorDue(3, -32602).open("a", 1, "").request(4, METHODS[i], others)
                .waitingDue(1).responsesDue(4).notify("close", "['a']").request(5, METHODS[i], others)
                .errorDue(5, -32602).waitingDue(1).request(6, METHODS[i], others.replace("'a'", "''"))
                .errorDue(6, -32602);
        }
    }

    /** "How many requests wait." */
    private static Session eight(String title) {
        Session s = Session.withText(title, "x");
        for (int id = 1; id <= 8; id++) {
            s.waitingDue(id - 1).request(id, METHODS[id % 4], GOOD[id % 4]);
        }
        return s.waitingDue(8).responsesDue(1);
    }

    /** "8 waiting: error -32803." */
    private static void eightWait() {
        for (int i = 0; i < METHODS.length; i++) {
            eight("a ninth " + METHODS[i]).request(9, METHODS[i], GOOD[i]).errorDue(9, -32803).waitingDue(8)
                .requestDue(7, 8).requestDue(8, Session.OUTSIDE).responsesDue(2);
        }
        eight("one was run").runDue(3, 4).waitingDue(7).request(9, "lines", "['a']").waitingDue(8).requestDue(7, 9)
            .request(10, "lines", "['a']").errorDue(10, -32803);
        Session s = Session.withText("eight at once, not in all", "x");
        for (int id = 1; id <= 20; id++) {
            s.request(id, "length", "['a']").waitingDue(1).runDue(0, id);
        }
        s.responsesDue(21).waitingDue(0);
    }

    /** First the method, then the parameters and the document, then how many wait. */
    private static void orderOfErrors() {
        eight("errors with eight waiting").request(9, "x", "['a']").errorDue(9, -32601).request(9, "length", "[]")
            .errorDue(9, -32602).request(9, "length", "['b']").errorDue(9, -32602).request(9, "length", "['a']")
            .errorDue(9, -32803).request(9, "initialize", "[]").errorDue(9, -32600).waitingDue(8)
            .request(9, "shutdown", "[]").resultDue(9, 0).stateDue(2).waitingDue(8);
        Session.ready("no such method, no parameters").request(1, "x", "null").errorDue(1, -32601);
    }

    /** "Else it WAITS, with the text as it is then." */
    private static void waitsWithTheTextAsItIsThen() {
        Session s = Session.withText("as it was", "ab\\nc");
        s.request(1, "length", "['a']").request(2, "index", "['a','b']").request(3, "at", "['a',1,0]")
            .request(4, "lines", "['a']").notify("change", "['a',2,'']").request(5, "length", "['a']")
            .notify("close", "['a']").open("a", 1, "bbbbbbb").request(6, "length", "['a']").waitingDue(6);
        s.runDue(0, 1).resultDue(1, 4).runDue(0, 2).resultDue(2, 1).runDue(0, 3).resultDue(3, 'c').runDue(0, 4)
            .resultDue(4, 2).runDue(0, 5).resultDue(5, 0).runDue(0, 6).resultDue(6, 7).waitingDue(0)
            .wholeDue(0, "a", 1, "bbbbbbb");
        Session.ready("of its own document").open("a", 1, "x").open("b", 1, "yy").request(1, "length", "['b']")
            .request(2, "length", "['a']").notify("close", "['a']").runDue(0, 1).resultDue(1, 2).runDue(0, 2)
            .resultDue(2, 1);
    }

    /** "The id of the k-th waiting request (from 0, in the order in which they came)." */
    private static void inTheOrderInWhichTheyCame() {
        Session.withText("order", "x").request(30, "length", "['a']").request(-20, "lines", "['a']")
            .request(10, "at", "['a',0,0]").requestDue(0, 30).requestDue(1, -20).requestDue(2, 10).waitingDue(3)
            .runDue(0, 30).requestDue(0, -20).requestDue(1, 10).requestDue(2, Session.OUTSIDE)
            .request(5, "lines", "['a']").requestDue(2, 5).requestDue(3, Session.OUTSIDE).waitingDue(3);
    }

    /** "Runs the k-th waiting request ..: it waits no more and is answered. Its id." */
    private static void runInAnyOrder() {
        Session s = Session.withText("any order", "x");
        s.request(10, "length", "['a']").notify("change", "['a',2,'xx']").request(-20, "length", "['a']")
            .notify("change", "['a',3,'xxx']").request(30, "length", "['a']").notify("change", "['a',4,'xxxx']")
            .request(40, "length", "['a']");
        s.runDue(1, -20).resultDue(-20, 2).requestDue(0, 10).requestDue(1, 30).requestDue(2, 40).waitingDue(3);
        s.runDue(2, 40).resultDue(40, 4).runDue(1, 30).resultDue(30, 3).runDue(0, 10).resultDue(10, 1).waitingDue(0)
            .responsesDue(5);
        Session t = Session.withText("one goes and one comes", "x").request(1, "length", "['a']")
            .request(2, "length", "['a']").runDue(0, 1).request(3, "at", "['a',0,0]");
        t.waitingDue(2).requestDue(0, 2).requestDue(1, 3).runDue(0, 2).resultDue(2, 1).runDue(0, 3).resultDue(3, 'x');
    }

    /** "in any state": in NEW nothing can wait. */
    private static void runInAnyState() {
        String[] into = {"{'method':'x'}", "{'id':1,'method':'shutdown'}", "{'method':'exit'}"};
        for (int i = 0; i < into.length; i++) {
            Session.withText("run in state " + (i + 1), "xyz").request(4, "length", "['a']").say(into[i])
                .stateDue(i + 1).runDue(0, 4).resultDue(4, 3).waitingDue(0).stateDue(i + 1).runDue(0, Session.OUTSIDE);
        }
        Session.withText("run in state 4", "xyz").request(4, "length", "['a']").feedDue("x", 3).stateDue(4).runDue(0, 4)
            .resultDue(4, 3).waitingDue(0).stateDue(4).runDue(0, Session.OUTSIDE);
    }

    /** "IndexOutOfBoundsException if there is none." */
    private static void noSuchRequest() {
        int[] far = {-1, -2, 8, 9, Integer.MIN_VALUE, Integer.MAX_VALUE};
        Session none = Session.withText("nothing waits", "x").requestDue(0, Session.OUTSIDE).runDue(0, Session.OUTSIDE);
        Session one = Session.withText("one waits", "x").request(5, "lines", "['a']").requestDue(1, Session.OUTSIDE)
            .runDue(1, Session.OUTSIDE);
        Session all = eight("eight wait");
        for (int k : far) {
            none.requestDue(k, Session.OUTSIDE).runDue(k, Session.OUTSIDE);
            one.requestDue(k, Session.OUTSIDE).runDue(k, Session.OUTSIDE);
            all.requestDue(k, Session.OUTSIDE).runDue(k, Session.OUTSIDE);
        }
        one.waitingDue(1).responsesDue(1).requestDue(0, 5).runDue(0, 5);
        all.waitingDue(8).responsesDue(1).requestDue(0, 1).requestDue(7, 8).runDue(7, 8).requestDue(7, Session.OUTSIDE);
    }

    /** "If there is no such character, error -32603." */
    private static void noSuchCharacter() {
        asked("abc", "index", "['a','d']").errorDue(5, -32603);
        asked("", "index", "['a','d']").errorDue(5, -32603);
        asked("abc", "index", "['a','A']").errorDue(5, -32603);
        asked("abc", "at", "['a',0,2]").resultDue(5, 'c');
        asked("abc", "at", "['a',0,3]").errorDue(5, -32603);
        asked("abc", "at", "['a',1,0]").errorDue(5, -32603);
        asked("", "at", "['a',0,0]").errorDue(5, -32603);
        asked("", "at", "['a',-1,0]").errorDue(5, -32603);
        asked("a\\n", "at", "['a',0,1]").resultDue(5, 10);
        asked("a\\n", "at", "['a',1,0]").errorDue(5, -32603);
        asked("x".repeat(60), "at", "['a',0,59]").resultDue(5, 'x');
        asked("x".repeat(60), "at", "['a',0,60]").errorDue(5, -32603);
        asked("x".repeat(60), "index", "['a','y']").errorDue(5, -32603);
        Session.withText("what was in a longer text", "abc").request(1, "length", "['a']").runDue(0, 1)
            .notify("change", "['a',2,'a']").request(2, "index", "['a','b']").request(3, "at", "['a',0,1]").runDue(0, 2)
            .errorDue(2, -32603).runDue(0, 3).errorDue(3, -32603);
    }

    private static void sameIds() {
        Session.withText("one id twice", "x").request(1, "length", "['a']").notify("change", "['a',2,'xx']")
            .request(1, "length", "['a']").waitingDue(2).requestDue(0, 1).requestDue(1, 1).runDue(1, 1).resultDue(1, 2)
            .waitingDue(1).runDue(0, 1).resultDue(1, 1);
    }
}
