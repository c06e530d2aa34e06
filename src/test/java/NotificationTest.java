/** The notifications in READY, and when they are IGNORED (promise 11); each method quotes its sentence. */
final class NotificationTest {
    public static void main(String[] args) {
        anotherMethod();
        countsFromZero();
        openWithOtherParameters();
        openWhatIsOpen();
        openWhenThreeAreOpen();
        openDoesNothingWhereItCant();
        closes();
        closeWithOtherParameters();
        parametersEndWhereTheirArrayEnds();
        versionGreater();
        anyNumberOfEdits();
        eachAfterTheOther();
        changeWithOtherParameters();
        editsThatAreNotSo();
        nothingOfItIsDone();
        cancels();
        cancelTheFirst();
        cancelWhatIsNotThere();
        cancelWithOtherParameters();
        Session.end();
    }

    /** Each of them is counted, and does nothing to the document a of that text. */
    private static void ignored(String method, String text, String... params) {
        for (String wrong : params) {
            Session.withText(method + " " + wrong, text).ignoredDue(0).notify(method, wrong).ignoredDue(1)
                .documentsDue(1).wholeDue(0, "a", 1, text).responsesDue(1).stateDue(1);
        }
    }

    /** "otherwise (also another method) .. they are IGNORED, and counted" */
    private static void anotherMethod() {
        for (String method : new String[] {"x", "", "Open", "opens", "ope", "closed", "clos", "changes", "chang",
            "cancels", "cance", "open ", "initialize", "shutdown", "length", "index", "at", "lines"}) {
            ignored(method, "one", "['a']", "['a',2,'x']", "[]");
        }
    }

    /** "How many notifications were ignored." */
    private static void countsFromZero() {
        Session s = Session.ready("counts").ignoredDue(0);
        for (int i = 1; i <= 20; i++) {
            s.notify("x", "0").ignoredDue(i);
        }
        s.request(1, "x", "0").send("[").ignoredDue(20);
    }

    /** "Notifications in READY, with parameters as said; otherwise ..": "open [name, version, text]" */
    private static void openWithOtherParameters() {
        ignored("open", "one", "[]", "null", "{}", "'b'", "1", "true", "['b']", "['b',1]", "['b',1,'',1]",
            "['b',1,'','']", "['b','1','']", "[1,1,'']", "['b',1,1]", "['b',1,null]", "['b',null,'']", "[null,1,'']",
            "[['b'],1,'']", "['b',[1],'']", "['b',1,['']]", "[['b',1,'']]", "['b','',1]", "{'a':'b','b':1,'c':''}",
            "['',1,'']", "['bcdef',1,'']", "['b',true,'']", "['b',1,{}]");
        Session.ready("no params").say("{'method':'open'}").documentsDue(0).ignoredDue(1);
    }

    /** "it can't be, if that name is open" */
    private static void openWhatIsOpen() {
        ignored("open", "one", "['a',2,'y']", "['a',1,'one']");
        Session.ready("open again, one of three").open("a", 1, "").open("b", 1, "x").open("b", 2, "y").documentsDue(2)
            .ignoredDue(1).wholeDue(1, "b", 1, "x").open("a", 2, "y").ignoredDue(2).wholeDue(0, "a", 1, "");
        Session.ready("open, close, open").open("a", 5, "x").notify("close", "['a']").open("a", 1, "y").ignoredDue(0)
            .wholeDue(0, "a", 1, "y");
        Session.ready("names that begin alike").open("ab", 1, "").open("a", 1, "").open("abc", 1, "").documentsDue(3)
            .ignoredDue(0);
        Session.ready("names in case and order").open("ab", 1, "").open("ba", 1, "").open("aB", 1, "").documentsDue(3)
            .ignoredDue(0);
    }

    /** "three are open" */
    private static void openWhenThreeAreOpen() {
        Session.ready("two are open").open("a", 1, "").open("b", 1, "").open("c", 1, "z").wholeDue(2, "c", 1, "z")
            .ignoredDue(0).open("d", 1, "").documentsDue(3).ignoredDue(1).wholeDue(2, "c", 1, "z")
            .open("c", 2, "").ignoredDue(2).wholeDue(2, "c", 1, "z");
    }

    /** "or name or text is not as said"; "and where it can't be done" */
    private static void openDoesNothingWhereItCant() {
        String tooLong = "x".repeat(61);
        Session.ready("a good name, a bad text").open("ab", 7, tooLong).documentsDue(0).ignoredDue(1)
            .documentDue(0, 0, Session.OUTSIDE).open("ab", 1, "y").wholeDue(0, "ab", 1, "y");
        Session.ready("a bad name, a good text").open("abcde", 7, "one").documentsDue(0).ignoredDue(1)
            .open("", 7, "one").documentsDue(0).ignoredDue(2).open("ab", 1, "y").wholeDue(0, "ab", 1, "y");
        Session.ready("both bad").open("abcde", 7, tooLong).documentsDue(0).ignoredDue(1);
    }

    /** "close [name]" */
    private static void closes() {
        Session.ready("close").open("a", 1, "1").open("b", 2, "22").open("c", 3, "333").notify("close", "['a']")
            .documentsDue(2).wholeDue(0, "b", 2, "22").wholeDue(1, "c", 3, "333").documentDue(2, 0, Session.OUTSIDE)
            .notify("close", "['c']").documentsDue(1).wholeDue(0, "b", 2, "22").ignoredDue(0).notify("close", "['b']")
            .documentsDue(0).ignoredDue(0).responsesDue(1).notify("close", "['b']").ignoredDue(1);
        Session.ready("each keeps its own text").open("a", 1, "1").open("b", 1, "2").notify("close", "['a']")
            .open("c", 5, "333").wholeDue(0, "b", 1, "2").wholeDue(1, "c", 5, "333").notify("change", "['c',6,'4444']")
            .wholeDue(0, "b", 1, "2").wholeDue(1, "c", 6, "4444");
    }

    private static void closeWithOtherParameters() {
        ignored("close", "one", "[]", "null", "'a'", "['b']", "['a',1]", "['a','a']", "[1]", "[null]", "[['a']]",
            "['']", "['aa']", "['A']", "{'a':'a'}", "{}", "1");
        Session.withText("no params", "one").say("{'method':'close'}").documentsDue(1).ignoredDue(1);
    }

    /** What stands behind the array in the message is none of its parameters. */
    private static void parametersEndWhereTheirArrayEnds() {
        String[] bodies = {"'change','params':['a'],'x':5", "'change','params':['a'],'x':5,'y':'q'",
            "'change','params':[],'w':'a','x':5,'y':'q'", "'change','params':['a',2,[0,0,0,0],'q']",
            "'change','params':['a',2,[0,0],0,0,'q']", "'close','params':[],'x':'a'", "'close','params':[[],'a']",
            "'open','params':['b'],'x':5,'y':'q'", "'open','params':['b',5],'y':'q'", "'cancel','params':[],'x':6"};
        for (String body : bodies) {
            Session.withText("body " + body, "one").request(6, "length", "['a']").say("{'method':" + body + "}")
                .ignoredDue(1).documentsDue(1).wholeDue(0, "a", 1, "one").waitingDue(1).responsesDue(1);
        }
    }

    /** "if the version is greater than that of the document"; "Then the document has the new version." */
    private static void versionGreater() {
        for (int version : new int[] {-999998, -1, 0, 1, 999998}) {
            Session s = Session.ready("version " + version).open("a", version, "one");
            s.notify("change", "['a'," + (version - 1) + ",'less']").wholeDue(0, "a", version, "one").ignoredDue(1);
            s.notify("change", "['a'," + version + ",'same']").wholeDue(0, "a", version, "one").ignoredDue(2);
            s.notify("change", "['a'," + (version + 1) + ",'more']").wholeDue(0, "a", version + 1, "more")
                .ignoredDue(2);
            s.notify("change", "['a'," + (version + 1) + ",'same']").wholeDue(0, "a", version + 1, "more")
                .ignoredDue(3);
        }
        Session.ready("from the least to the most").open("a", -999999, "").notify("change", "['a',999999,'x']")
            .wholeDue(0, "a", 999999, "x").notify("change", "['a',999999,'y']").ignoredDue(1);
        Session.ready("each has its own version").open("a", 5, "").open("b", 1, "").notify("change", "['b',2,'x']")
            .wholeDue(1, "b", 2, "x").wholeDue(0, "a", 5, "").ignoredDue(0);
    }

    /** "the edits (any number of them)" */
    private static void anyNumberOfEdits() {
        Session.withText("none", "one").notify("change", "['a',999999]").wholeDue(0, "a", 999999, "one").ignoredDue(0);
        Session.withText("one", "one").notify("change", "['a',2,'x']").wholeDue(0, "a", 2, "x").ignoredDue(0);
        Session.withText("two", "one").notify("change", "['a',2,'x','y']").wholeDue(0, "a", 2, "y").ignoredDue(0);
        // {method, params [name, version, edits]} leaves 35 of the 40 values to the edits.
        Session.withText("35", "one").notify("change", "['a',2" + ",''".repeat(34) + ",'z']").wholeDue(0, "a", 2, "z")
            .ignoredDue(0);
        Session.withText("36", "one").notify("change", "['a',2" + ",''".repeat(35) + ",'z']").errorDue(null, -32700)
            .wholeDue(0, "a", 1, "one").ignoredDue(0);
    }

    /** "each after the other; an edit is a string, the whole new text, or an array [..]" */
    private static void eachAfterTheOther() {
        Session s = Session.withText("edits", "one");
        s.notify("change", "['a',2,'ab',[0,1,0,1,'-'],[0,9,0,9,'!']]").wholeDue(0, "a", 2, "a-b!");
        s.notify("change", "['a',3,[0,0,9,9,'z'],'y','']").wholeDue(0, "a", 3, "");
        s.notify("change", "['a',4,[0,0,0,0,'x\\ny'],[1,0,1,1,'z']]").wholeDue(0, "a", 4, "x\nz");
        s.notify("change", "['a',5,[1,0,1,0,'\\n'],[2,0,2,0,'q']]").wholeDue(0, "a", 5, "x\n\nqz").ignoredDue(0);
    }

    /** "change [name, version, edit, ..]" */
    private static void changeWithOtherParameters() {
        ignored("change", "one", "[]", "null", "'a'", "1", "['a']", "['a','3']", "[3,'a']", "['b',3]", "['b',3,'q']",
            "['',3]", "['aa',3]", "['a',null,'q']", "[null,3,'q']", "['a','q']", "['a','q',3]", "{'a':'a','b':3}", "{}",
            "[['a'],3]", "['a',[3],'q']");
        Session.withText("no params", "one").say("{'method':'change'}").wholeDue(0, "a", 1, "one").ignoredDue(1);
    }

    /** "If one of the edits is not so .. nothing of it is done." */
    private static void editsThatAreNotSo() {
        ignored("change", "one", "['a',3,1]", "['a',3,null]", "['a',3,true]", "['a',3,[]]", "['a',3,{}]",
            "['a',3,[0,0,0,0]]", "['a',3,[0,0,0,'q']]", "['a',3,[0,0,0,0,'q',1]]", "['a',3,[0,0,0,0,'q','r']]",
            "['a',3,[0,0,0,0,1]]", "['a',3,[0,0,0,0,null]]", "['a',3,['0',0,0,0,'q']]", "['a',3,[0,'0',0,0,'q']]",
            "['a',3,[0,0,'0',0,'q']]", "['a',3,[0,0,0,'0','q']]", "['a',3,[0,0,0,null,'q']]", "['a',3,[0,0,'q']]",
            "['a',3,['q',0,0,0,0]]", "['a',3,[[0,0,0,0,'q']]]", "['a',3,['q']]",
            "['a',3,{'a':0,'b':0,'c':0,'d':0,'e':'q'}]");
    }

    private static void nothingOfItIsDone() {
        String tooLong = "'" + "x".repeat(61) + "'";
        ignored("change", "one", "['a',3,'q',null]", "['a',3,null,'q']", "['a',3,'q',[0,0,0,0],'r']",
            "['a',3,'q'," + tooLong + "]", "['a',3," + tooLong + ",'q']", "['a',3,'q',[0,0,0,0," + tooLong + "],'']",
            "['a',3,[0,0,0,3,''],1]");
        Session.withText("a good one behind a bad one", "one").notify("change", "['a',2,'q',1]")
            .notify("change", "['a',2,[0,3,0,3,'!']]").wholeDue(0, "a", 2, "one!").ignoredDue(1);
    }

    private static Session waits(String title, int... ids) {
        Session s = Session.withText(title, "x");
        for (int id : ids) {
            s.request(id, "length", "['a']");
        }
        return s;
    }

    /** "cancel [id]: the waiting request with that id .. is answered with error -32800" */
    private static void cancels() {
        waits("cancel", 5, 6, 7).notify("cancel", "[6]").errorDue(6, -32800).waitingDue(2).requestDue(0, 5)
            .requestDue(1, 7).requestDue(2, Session.OUTSIDE).ignoredDue(0).responsesDue(2).notify("cancel", "[7]")
            .errorDue(7, -32800).notify("cancel", "[5]").errorDue(5, -32800).waitingDue(0).ignoredDue(0)
            .responsesDue(4);
        waits("cancel 0 and below", 0, -5).notify("cancel", "[-5]").errorDue(-5, -32800).notify("cancel", "[0]")
            .errorDue(0, -32800).waitingDue(0).ignoredDue(0);
        waits("a cancelled one makes room", 1, 2, 3, 4, 5, 6, 7, 8).notify("cancel", "[8]")
            .request(9, "length", "['a']").waitingDue(8).requestDue(7, 9).request(10, "length", "['a']")
            .errorDue(10, -32803);
    }

    /** "(the first one)" */
    private static void cancelTheFirst() {
        Session s = waits("the first one", 5, 6).notify("change", "['a',2,'xx']").request(5, "length", "['a']");
        s.notify("cancel", "[5]").errorDue(5, -32800).waitingDue(2).requestDue(0, 6).requestDue(1, 5).responsesDue(2);
        s.runDue(1, 5).resultDue(5, 2).waitingDue(1);
    }

    /** "ignored, if there is none" */
    private static void cancelWhatIsNotThere() {
        waits("nothing waits").notify("cancel", "[5]").ignoredDue(1).responsesDue(1).notify("cancel", "[0]")
            .ignoredDue(2);
        waits("another waits", 6).notify("cancel", "[5]").ignoredDue(1).notify("cancel", "[7]").ignoredDue(2)
            .notify("cancel", "[-6]").ignoredDue(3).waitingDue(1).responsesDue(1);
        waits("it was run", 5).runDue(0, 5).notify("cancel", "[5]").ignoredDue(1).responsesDue(2);
        waits("it was cancelled", 5).notify("cancel", "[5]").ignoredDue(0).notify("cancel", "[5]").ignoredDue(1)
            .responsesDue(2);
        Session.ready("it was refused").request(5, "length", "['a']").notify("cancel", "[5]").ignoredDue(1)
            .responsesDue(2);
    }

    private static void cancelWithOtherParameters() {
        for (String params : new String[] {"[]", "['6']", "6", "[6,6]", "[6,null]", "null", "[null]", "[[6]]",
            "{'id':6}", "{}", "'6'"}) {
            waits("cancel " + params, 6).notify("cancel", params).ignoredDue(1).waitingDue(1).requestDue(0, 6)
                .responsesDue(1);
        }
        waits("cancel without params", 6).say("{'method':'cancel'}").ignoredDue(1).waitingDue(1).responsesDue(1);
    }
}
