/** Promises 11 to 16: documents and the notifications that they follow. */
final class DocumentTest {
    private static final Class<?> OUTSIDE = IndexOutOfBoundsException.class;
    private static final Class<?> NO_SUCH = IllegalArgumentException.class;
    private static final String SIXTY = "x".repeat(60);

    public static void main(String[] args) {
        opens();
        opensThatCannotBe();
        closes();
        changes();
        changesThatCannotBe();
        editsBetweenPositions();
        places();
        otherNotifications();
        wrongIndexes();
        Session.end();
    }

    private static void opens() {
        Session.ready("open").open("abcd", -5, "q\\n\\\"\\\\~").documentsDue(1).wholeDue(0, "abcd", -5, "q\n\"\\~")
            .open("b", 0, "").wholeDue(1, "b", 0, "").documentsDue(2).ignoredDue(0).responsesDue(1);
        Session.ready("a text of 60").open("a", 1, SIXTY).wholeDue(0, "a", 1, SIXTY);
        Session.ready("60 line ends").open("a", 1, "\\n".repeat(60)).documentDue(0, 1, 60).documentDue(0, 3, 61);
        Session.ready("a name of escapes").open("\\n\\\"\\\\ ", 1, "").wholeDue(0, "\n\"\\ ", 1, "");
    }

    private static void opensThatCannotBe() {
        String[] wrong = {"[]", "null", "{}", "\"a\"", "1", "[\"a\"]", "[\"a\",1]", "[\"a\",1,\"\",1]",
            "[\"a\",\"1\",\"\"]", "[1,1,\"\"]", "[\"a\",1,1]", "[\"a\",1,null]", "[\"a\",null,\"\"]",
            "[[\"a\"],1,\"\"]", "{\"a\":\"a\",\"b\":1,\"c\":\"\"}", "[\"\",1,\"\"]", "[\"abcde\",1,\"\"]",
            "[\"a\",1,\"" + SIXTY + "x\"]", "[\"a\",1,\"" + SIXTY + "\\n\"]"};
        for (String params : wrong) {
            Session.ready("open " + params).notify("open", params).documentsDue(0).ignoredDue(1).responsesDue(1);
        }
        Session.ready("no params").send("{\"method\":\"open\"}").documentsDue(0).ignoredDue(1);
        Session.ready("open again").open("a", 1, "x").open("a", 2, "y").documentsDue(1).ignoredDue(1)
            .wholeDue(0, "a", 1, "x");
        Session.ready("three are open").open("a", 1, "").open("b", 1, "").open("c", 1, "").documentsDue(3)
            .open("d", 1, "").documentsDue(3).ignoredDue(1).notify("close", "[\"b\"]").open("d", 4, "z")
            .documentsDue(3).ignoredDue(1).nameDue(0, 0, 'a').nameDue(1, 0, 'c').wholeDue(2, "d", 4, "z");
        Session.ready("a failed open leaves nothing").open("a", 1, SIXTY + "x").open("a", 2, "y")
            .wholeDue(0, "a", 2, "y").ignoredDue(1);
        Session.ready("names by all their characters").open("ab", 1, "").open("a", 1, "").open("b", 1, "")
            .documentsDue(3);
        Session.ready("names differ in case and order").open("ab", 1, "").open("ba", 1, "").open("aB", 1, "")
            .documentsDue(3).ignoredDue(0);
    }

    private static void closes() {
        Session.ready("close").open("a", 1, "1").open("b", 2, "22").open("c", 3, "333").notify("close", "[\"a\"]")
            .documentsDue(2).wholeDue(0, "b", 2, "22").wholeDue(1, "c", 3, "333").documentDue(2, 0, OUTSIDE)
            .notify("close", "[\"c\"]").documentsDue(1).wholeDue(0, "b", 2, "22").ignoredDue(0)
            .open("a", 0, "").wholeDue(1, "a", 0, "").notify("close", "[\"b\"]").notify("close", "[\"a\"]")
            .documentsDue(0).ignoredDue(0).responsesDue(1);
        Session.ready("what was closed is gone").open("a", 1, "xyz").notify("close", "[\"a\"]").textDue(0, 0, OUTSIDE)
            .nameDue(0, 0, OUTSIDE).documentDue(0, 0, OUTSIDE).placeDue(0, 0, 0, OUTSIDE);
        Session.ready("each has its own text").open("a", 1, "1").open("b", 1, "2").notify("close", "[\"a\"]")
            .open("c", 5, "333").wholeDue(0, "b", 1, "2").wholeDue(1, "c", 5, "333")
            .notify("change", "[\"c\",6,\"4444\"]").wholeDue(0, "b", 1, "2").wholeDue(1, "c", 6, "4444");
        String[] wrong = {"[]", "null", "\"a\"", "[\"b\"]", "[\"a\",1]", "[1]", "[[\"a\"]]", "[\"\"]", "[\"aa\"]",
            "{\"a\":\"a\"}"};
        Session s = Session.ready("close what is not").open("a", 1, "x");
        for (int i = 0; i < wrong.length; i++) {
            s.notify("close", wrong[i]).documentsDue(1).ignoredDue(i + 1);
        }
    }

    private static void changes() {
        Session s = Session.ready("change").open("a", 1, "one").open("b", 1, "two");
        s.notify("change", "[\"b\",2,\"three\"]").wholeDue(1, "b", 2, "three").wholeDue(0, "a", 1, "one");
        s.notify("change", "[\"a\",999999]").wholeDue(0, "a", 999999, "one");
        s.notify("change", "[\"b\",3,\"ab\",[0,1,0,1,\"-\"],[0,9,0,9,\"!\"]]").wholeDue(1, "b", 3, "a-b!");
        s.notify("change", "[\"b\",4,[0,0,9,9,\"z\"],\"y\",\"\"]").wholeDue(1, "b", 4, "").ignoredDue(0);
        Session.ready("negative versions").open("a", -10, "").notify("change", "[\"a\",-9,\"x\"]")
            .wholeDue(0, "a", -9, "x").ignoredDue(0);
        Session.ready("up to 60").open("a", 1, "x".repeat(59)).notify("change", "[\"a\",2,[0,0,0,0,\"x\"]]")
            .wholeDue(0, "a", 2, SIXTY).notify("change", "[\"a\",3,[0,10,0,20,\"0123456789\"]]")
            .wholeDue(0, "a", 3, "x".repeat(10) + "0123456789" + "x".repeat(40)).ignoredDue(0);
    }

    private static void changesThatCannotBe() {
        String[] wrong = {"[]", "null", "\"a\"", "[\"a\"]", "[\"a\",\"3\"]", "[3,\"a\"]", "[\"b\",3]", "[\"a\",1,\"q\"]",
            "[\"a\",2,\"q\"]", "[\"a\",-3]", "[\"a\",3,1]", "[\"a\",3,null]", "[\"a\",3,\"q\",null]", "[\"a\",3,[]]",
            "[\"a\",3,{}]", "[\"a\",3,[0,0,0,0]]", "[\"a\",3,[0,0,0,0,\"q\",1]]", "[\"a\",3,[0,0,0,0,1]]",
            "[\"a\",3,[\"0\",0,0,0,\"q\"]]", "[\"a\",3,[0,0,0,null,\"q\"]]", "[\"a\",3,[0,0,\"q\"]]",
            "[\"a\",3,[[0,0,0,0,\"q\"]]]", "[\"a\",3,\"" + SIXTY + "x\"]", "[\"a\",3,\"" + SIXTY + "x\",\"\"]",
            "[\"a\",3,[0,0,0,0,\"" + "x".repeat(58) + "\"]]", "[\"a\",3,\"q\",[0,0,0,0,\"" + SIXTY + "\"],\"\"]",
            "{\"a\":\"a\",\"b\":3}", "[\"a\",3,true]"};
        for (String params : wrong) {
            Session.ready("change " + params).open("a", 2, "one").notify("change", params).wholeDue(0, "a", 2, "one")
                .ignoredDue(1).responsesDue(1);
        }
        Session.ready("nothing is left of a bad change").open("a", 1, "one").notify("change", "[\"a\",2,\"q\",1]")
            .notify("change", "[\"a\",2,[0,3,0,3,\"!\"]]").wholeDue(0, "a", 2, "one!").ignoredDue(1);
    }

    private static void edit(String text, String edit, String after) {
        Session.ready("edit " + text + " " + edit).open("a", 1, text.replace("\n", "\\n"))
            .notify("change", "[\"a\",2," + edit + "]").wholeDue(0, "a", 2, after).ignoredDue(0);
    }

    private static void editsBetweenPositions() {
        edit("abcdef", "[0,2,0,4,\"\"]", "abef");
        edit("abcdef", "[0,4,0,2,\"XYZ\"]", "abXYZef");
        edit("abcdef", "[0,3,0,3,\"-\"]", "abc-def");
        edit("ab\ncd\nef", "[0,1,2,1,\"-\"]", "a-f");
        edit("ab\ncd\nef", "[2,1,0,1,\"-\"]", "a-f");
        edit("ab\ncd\nef", "[0,2,1,0,\"\"]", "abcd\nef");
        edit("ab\ncd", "[0,99,0,99,\"\\n\"]", "ab\n\ncd");
        edit("ab\ncd", "[9,0,9,9,\"!\"]", "ab\ncd!");
        edit("ab\ncd", "[-1,7,0,1,\"!\"]", "!b\ncd");
        edit("ab\ncd", "[1,-1,1,1,\"!\"]", "ab\n!d");
        edit("a~b", "[0,1,0,2,\"!\"]", "a!~b");
        edit("a~b", "[0,1,0,3,\"!\"]", "a!b");
        edit("", "[0,0,5,5,\"\\\"\\\\\"]", "\"\\");
        edit("abc", "[0,0,0,3,\"\"]", "");
        edit("abc", "[0,3,0,3,\"\\n\"],[1,0,1,0,\"d\"]", "abc\nd");
        edit("abc", "\"x\\ny\",[1,0,1,1,\"z\"]", "x\nz");
    }

    private static void places() {
        Session s = Session.ready("places").open("a", 1, "a~b\\n\\n~~\\nxyz").open("b", 1, "").open("c", 1, "q\\n");
        int[][] due = {{0, 0, 0}, {0, 1, 1}, {0, 2, 1}, {0, 3, 2}, {0, 4, 3}, {0, 5, 3}, {0, Integer.MAX_VALUE, 3},
            {0, -1, 0}, {0, Integer.MIN_VALUE, 0}, {1, 0, 4}, {1, 1, 4}, {1, -3, 4}, {2, 0, 5}, {2, 1, 5}, {2, 2, 6},
            {2, 3, 6}, {2, 4, 7}, {2, 9, 7}, {2, -1, 5}, {3, 0, 8}, {3, 2, 10}, {3, 3, 11}, {3, 4, 11}, {4, 0, 11},
            {4, -1, 11}, {Integer.MAX_VALUE, 0, 11}, {-1, 5, 0}, {-1, 0, 0},
            {Integer.MIN_VALUE, Integer.MAX_VALUE, 0}};
        for (int[] row : due) {
            s.placeDue(0, row[0], row[1], row[2]);
        }
        s.placeDue(1, 0, 0, 0).placeDue(1, 0, 5, 0).placeDue(1, 1, 0, 0).placeDue(1, -1, 0, 0);
        s.placeDue(2, 0, 1, 1).placeDue(2, 0, 2, 1).placeDue(2, 1, 0, 2).placeDue(2, 1, 5, 2).placeDue(2, 2, 0, 2);
        s.documentDue(0, 3, 4).documentDue(1, 3, 1).documentDue(2, 3, 2);
        s.placeDue(3, 0, 0, OUTSIDE).placeDue(-1, 0, 0, OUTSIDE);
    }

    private static void otherNotifications() {
        Session s = Session.ready("others");
        String[] others = {"initialize", "shutdown", "length", "index", "at", "lines", "x", "", "Open", "opens", "exi"};
        for (int i = 0; i < others.length; i++) {
            s.notify(others[i], "[\"a\"]").ignoredDue(i + 1);
        }
        s.stateDue(1).responsesDue(1).waitingDue(0);
    }

    private static void wrongIndexes() {
        Session s = Session.ready("indexes").open("ab", 7, "xyz");
        s.documentDue(0, 4, NO_SUCH).documentDue(0, -1, NO_SUCH).documentDue(0, Integer.MAX_VALUE, NO_SUCH);
        s.documentDue(1, 0, OUTSIDE).documentDue(1, 4, OUTSIDE).documentDue(-1, -1, OUTSIDE);
        s.documentDue(Integer.MIN_VALUE, 0, OUTSIDE).documentDue(3, 0, OUTSIDE);
        s.textDue(1, 0, OUTSIDE).textDue(-1, 0, OUTSIDE).textDue(0, 60, OUTSIDE);
        s.textDue(0, Integer.MIN_VALUE, OUTSIDE).textDue(0, Integer.MAX_VALUE, OUTSIDE);
        s.nameDue(1, 0, OUTSIDE).nameDue(-1, 0, OUTSIDE).nameDue(0, 4, OUTSIDE);
        s.nameDue(0, Integer.MIN_VALUE, OUTSIDE).wholeDue(0, "ab", 7, "xyz");
    }
}
