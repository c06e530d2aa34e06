/** What is a MESSAGE and which errors the others get; each method quotes the sentence it holds the program to. */
final class MessageTest {
    private static final String[] NO_STRINGS = {"1", "0", "-1", "null", "true", "false", "[]", "['initialize']", "{}",
        "{'method':'initialize'}"};
    private static final String[] NO_NUMBERS = {"'1'", "''", "null", "false", "true", "[]", "[1]", "{}", "{'id':1}"};

    public static void main(String[] args) {
        noValue();
        noObject();
        noObjectBehindAnObject();
        methodNoneOrNoString();
        idNoNumber();
        requestOrNotification();
        anyNumberIsAnId();
        parametersAreNullIfThereAreNone();
        otherMembers();
        errorsInEveryState();
        Session.end();
    }

    /** "A body that is no value: error -32700 without id." */
    private static void noValue() {
        for (String body : new String[] {"[", "{'id':5", "{'id':5,'method':'initialize'", "{'id':5,'method':'exit'}}",
            "{'id':5,'method':x}", "{'id':05,'method':'x'}", "{'id':1234567,'method':'x'}", "{'method':'exit',}"}) {
            new Session("no value " + body).say(body).errorDue(null, -32700).responsesDue(1).stateDue(0).ignoredDue(0);
        }
    }

    /** "A value that is no object ..: error -32600, .. else without." */
    private static void noObject() {
        for (String body : new String[] {"0", "7", "-7", "true", "false", "null", "''", "'initialize'", "[]", "[1]",
            "['id',1,'method','initialize']", "[{'id':5,'method':'initialize'}]"}) {
            new Session("no object " + body).say(body).errorDue(null, -32600).responsesDue(1).stateDue(0).ignoredDue(0);
        }
    }

    private static void noObjectBehindAnObject() {
        // The letters of the string lie where the names of the object before it lay.
        new Session("an array behind an object").say("{'id':5,'method':'x'}").errorDue(5, -32002).say("[6,'idmethodx']")
            .errorDue(null, -32600).say("'idmethodx'").errorDue(null, -32600).stateDue(0);
    }

    /** "or whose method is none or no string ..: error -32600, with the id if that is a number, else without" */
    private static void methodNoneOrNoString() {
        new Session("no method").say("{}").errorDue(null, -32600).say("{'id':4}").errorDue(4, -32600)
            .say("{'id':0}").errorDue(0, -32600).say("{'id':-999999,'params':[]}").errorDue(-999999, -32600)
            .say("{'params':1}").errorDue(null, -32600).say("{'id':'4'}").errorDue(null, -32600).responsesDue(6)
            .stateDue(0);
        for (String method : NO_STRINGS) {
            new Session("method " + method).say("{'id':3,'method':" + method + "}").errorDue(3, -32600)
                .say("{'method':" + method + "}").errorDue(null, -32600)
                .say("{'id':null,'method':" + method + "}").errorDue(null, -32600).stateDue(0).responsesDue(3);
        }
        new Session("an empty string is a string").request(3, "", "0").errorDue(3, -32002);
    }

    /** "or whose id is no number: error -32600, .. else without": also where a notification would do something. */
    private static void idNoNumber() {
        for (String id : NO_NUMBERS) {
            new Session("id " + id).say("{'id':" + id + ",'method':'initialize'}").errorDue(null, -32600)
                .say("{'id':" + id + ",'method':'exit'}").errorDue(null, -32600)
                .say("{'id':" + id + ",'method':1}").errorDue(null, -32600)
                .say("{'id':" + id + "}").errorDue(null, -32600).stateDue(0).codeDue(-1).responsesDue(4);
            Session.ready("ready, id " + id).say("{'id':" + id + ",'method':'open','params':['a',1,'']}")
                .errorDue(null, -32600).say("{'id':" + id + ",'method':'shutdown'}").errorDue(null, -32600)
                .documentsDue(0).ignoredDue(0).stateDue(1);
        }
    }

    /** "with a member id, a number, it is a REQUEST with that id, without one a NOTIFICATION" */
    private static void requestOrNotification() {
        new Session("initialize without id").say("{'method':'initialize'}").stateDue(0).responsesDue(0)
            .say("{'method':'initialize','id':0}").stateDue(1).resultDue(0, 0).responsesDue(1);
        Session.ready("shutdown without id").say("{'method':'shutdown'}").stateDue(1).ignoredDue(1).responsesDue(1);
        Session.ready("open with id").request(0, "open", "['a',1,'']").errorDue(0, -32601).documentsDue(0)
            .ignoredDue(0);
        Session.withText("length without id", "x").notify("length", "['a']").waitingDue(0).ignoredDue(1)
            .responsesDue(1);
    }

    private static void anyNumberIsAnId() {
        for (int id : new int[] {-999999, -1, 0, 1, 999999}) {
            new Session("id " + id).request(id, "x", "0").errorDue(id, -32002).request(id, "initialize", "0")
                .resultDue(id, 0).open("a", 1, "xy").request(id, "length", "['a']").requestDue(0, id).runDue(0, id)
                .resultDue(id, 2);
        }
    }

    /** "its PARAMETERS are the member params (null if there is none)" */
    private static void parametersAreNullIfThereAreNone() {
        Session.withText("null or none", "x").say("{'id':1,'method':'length'}").errorDue(1, -32602)
            .request(2, "length", "null").errorDue(2, -32602).say("{'method':'close'}").ignoredDue(1)
            .notify("close", "null").ignoredDue(2).documentsDue(1).say("{'id':3,'method':'shutdown'}").resultDue(3, 0);
        Session.withText("not those of the message before", "x").notify("x", "['a']").say("{'id':1,'method':'length'}")
            .errorDue(1, -32602).say("{'method':'close'}").documentsDue(1).ignoredDue(2);
    }

    /** "A MESSAGE is a body that is an object. Its METHOD is the member method, a string" */
    private static void otherMembers() {
        new Session("any order, other members").say("{'x':[1],'params':0,'method':'initialize','y':{},'id':0}")
            .resultDue(0, 0).stateDue(1);
    }

    private static void errorsInEveryState() {
        badBodies(new Session("new"), 0);
        badBodies(Session.ready("ready"), 1);
        badBodies(Session.ready("down").request(1, "shutdown", "0"), 2);
        new Session("out").say("{'method':'exit'}").say("[").say("7").say("{'id':1}").responsesDue(0).stateDue(3);
        new Session("closed").feedDue("x", 0).say("[").say("7").say("{'id':1}").responsesDue(0).stateDue(4);
    }

    private static void badBodies(Session s, int state) {
        s.say("[").errorDue(null, -32700).say("7").errorDue(null, -32600).say("{'id':1}").errorDue(1, -32600)
            .say("{'id':1,'method':null}").errorDue(1, -32600).say("{'id':null,'method':'x'}").errorDue(null, -32600)
            .stateDue(state).ignoredDue(0);
    }
}
