/** The document's first sentence, part by part: "The server side of an editor's protocol: ..". */
final class WhatItIsTest {
    private static final String[] BODIES = {"{'id':1,'method':'initialize'}", "{'method':'open','params':['a',1,'x~']}",
        "{'id':2,'method':'lines','params':['a']}", "{'method':'change','params':['a',2,'\\n',[0,0,0,0,'q']]}", "[",
        "{'id':3,'method':'length','params':['a']}", "{'method':'z'}"};

    public static void main(String[] args) {
        characterByCharacter();
        cutAnywhere();
        bodiesAreValues();
        oneResponseEach();
        noResponseToNotifications();
        notificationsInTheirOrder();
        workedOutLater();
        Session.end();
    }

    private static String input() {
        StringBuilder input = new StringBuilder();
        for (String body : BODIES) {
            input.append(body.length()).append(':').append(body.replace('\'', '"'));
        }
        return input.toString();
    }

    private static void allRead(Session s) {
        s.feedDue("\0", BODIES.length).stateDue(1).wholeDue(0, "a", 2, "q\n").documentsDue(1).ignoredDue(1)
            .responsesDue(2).responseDue(0, 3, 0).responseDue(1, 3, -32700).waitingDue(2).runDue(1, 3).resultDue(3, 2)
            .runDue(0, 2).resultDue(2, 1).responsesDue(4);
    }

    /** "frames come character by character": however many of the four characters are none. */
    private static void characterByCharacter() {
        String input = input();
        for (String none : new String[] {"\0\0\0", "\u0080\u00ff\0", "\0", "\u00ff"}) {
            Session s = new Session("input with " + none.length() + " that are none");
            StringBuilder wide = new StringBuilder();
            for (char c : input.toCharArray()) {
                wide.append(c).append(none);
            }
            s.input(wide.toString());
            allRead(s);
        }
    }

    /** The same: where the fours are cut makes no difference. */
    private static void cutAnywhere() {
        String input = input();
        for (int cut = 0; cut <= input.length(); cut++) {
            Session s = new Session("cut at " + cut);
            s.input(input.substring(0, cut));
            s.input(input.substring(cut));
            allRead(s);
        }
    }

    /** "their bodies are read as values": not as they are written. */
    private static void bodiesAreValues() {
        String[] same = {"{'id':7,'method':'initialize'}", " { 'id' : 7 , 'method' : 'initialize' } ",
            "{\n'method':\n'initialize','x':[{'id':8}],'id':7,'id':9}"};
        for (String body : same) {
            new Session("value " + body).say(body).stateDue(1).resultDue(7, 0).responsesDue(1);
        }
    }

    /** "requests are answered with one response each": at once, or when they are run or cancelled. */
    private static void oneResponseEach() {
        String[][] requests = {{"x", "0"}, {"initialize", "0"}, {"initialize", "0"}, {"x", "0"}, {"length", "['b']"},
            {"length", "['a']"}, {"index", "['a','x']"}, {"index", "['a','y']"}, {"index", "['a','xy']"},
            {"at", "['a',0,0]"}, {"at", "['a',9,0]"}, {"at", "['a']"}, {"lines", "['a']"}, {"shutdown", "0"},
            {"shutdown", "0"}, {"length", "['a']"}};
        Session s = new Session("one response each");
        for (int id = 0; id < requests.length; id++) {
            int before = s.server().responses() + s.server().waiting();
            s.request(id, requests[id][0], requests[id][1]);
            s.due("answered or waiting", () -> s.server().responses() + s.server().waiting(), before + 1);
            if (id == 2) {
                s.open("a", 1, "xz");
            }
        }
        for (int left = 6; left > 0; left--) {
            s.waitingDue(left);
            s.server().run(left / 2);
        }
        s.waitingDue(0).responsesDue(requests.length);
        int[] responsesTo = new int[requests.length];
        for (int k = 0; k < requests.length; k++) {
            responsesTo[s.server().response(k, 0)]++;
        }
        for (int id = 0; id < requests.length; id++) {
            int found = responsesTo[id];
            s.due("responses to " + id, () -> found, 1);
        }
        Session.withText("cancelled, then run", "x").request(5, "length", "['a']").notify("cancel", "[5]")
            .runDue(0, Session.OUTSIDE).notify("cancel", "[5]").responsesDue(2).errorDue(5, -32800);
    }

    private static void noResponseToNotifications() {
        Session s = Session.withText("notifications", "x").notify("change", "['a',2,'y']").notify("change", "['a',2]")
            .notify("open", "0").notify("close", "['a']").notify("close", "['a']").notify("cancel", "[1]")
            .notify("x", "0").responsesDue(1).waitingDue(0).ignoredDue(5);
        s.say("{'method':'exit'}").responsesDue(1);
    }

    /** "documents follow the notifications in their order" */
    private static void notificationsInTheirOrder() {
        String[] edits = {"[0,0,0,0,'x']", "[0,1,0,9,'']", "'abc'"};
        int[][] orders = {{0, 1, 2}, {0, 2, 1}, {1, 0, 2}, {1, 2, 0}, {2, 0, 1}, {2, 1, 0}};
        String[] due = {"abc", "a", "abc", "xabc", "x", "xa"};
        for (int i = 0; i < orders.length; i++) {
            Session s = Session.withText("order " + i, "12");
            for (int j = 0; j < 3; j++) {
                s.notify("change", "['a'," + (j + 2) + "," + edits[orders[i][j]] + "]");
            }
            s.wholeDue(0, "a", 4, due[i]).ignoredDue(0);
        }
        Session.withText("close, then change", "1").notify("close", "['a']").notify("change", "['a',2,'2']")
            .documentsDue(0).ignoredDue(1).open("a", 1, "3").wholeDue(0, "a", 1, "3");
    }

    /** "and what a request asks is worked out later, on the text as it was when the request came" */
    private static void workedOutLater() {
        Session s = Session.ready("later").open("a", 1, "0");
        for (int i = 1; i <= 8; i++) {
            s.request(i, "length", "['a']").notify("change", "['a'," + (i + 1) + ",[9,0,9,0,'" + i + "']]");
        }
        s.responsesDue(1).notify("close", "['a']").say("{'id':9,'method':'shutdown'}").responsesDue(2);
        for (int k : new int[] {7, 0, 3, 2, 0, 1, 1, 0}) {
            int id = s.server().request(k);
            s.runDue(k, id).resultDue(id, id);
        }
        s.waitingDue(0).responsesDue(10);
    }
}
