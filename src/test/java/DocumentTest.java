/** The limits of DOCUMENTS, and promises 12 to 15; each method quotes the sentence it holds the program to. */
final class DocumentTest {
    private static final String SIXTY = "0123456789".repeat(6);

    public static void main(String[] args) {
        atMostThree();
        inTheOrderTheyWereOpened();
        nameOfOneToFour();
        versionIsANumber();
        textOfAtMostSixtyWhenOpened();
        textOfAtMostSixtyWhenReplaced();
        textOfAtMostSixtyWhenEdited();
        howManyLines();
        partsOfADocument();
        noSuchDocument();
        noSuchWhat();
        noSuchCharacterOfText();
        noSuchCharacterOfName();
        Session.end();
    }

    /** "DOCUMENTS, at most 3"; "How many documents are open." */
    private static void atMostThree() {
        Session s = Session.ready("at most three").documentsDue(0).open("a", 1, "").documentsDue(1).open("b", 1, "")
            .documentsDue(2).open("c", 1, "").documentsDue(3).ignoredDue(0).open("d", 1, "").documentsDue(3)
            .ignoredDue(1).documentDue(3, 0, Session.OUTSIDE);
        s.notify("close", "['b']").documentsDue(2).open("d", 4, "z").documentsDue(3).ignoredDue(1).open("e", 1, "")
            .documentsDue(3).ignoredDue(2).wholeDue(2, "d", 4, "z");
        Session t = Session.ready("three at once, not in all");
        for (int i = 0; i < 8; i++) {
            t.open("a", i, "x").documentsDue(1).notify("close", "['a']").documentsDue(0);
        }
        t.ignoredDue(0);
    }

    /** "document d (from 0, in the order in which they were opened)" */
    private static void inTheOrderTheyWereOpened() {
        Session s = Session.ready("order").open("c", 1, "1").open("a", 2, "22").open("b", 3, "333")
            .wholeDue(0, "c", 1, "1").wholeDue(1, "a", 2, "22").wholeDue(2, "b", 3, "333");
        s.notify("change", "['c',9,'4444']").wholeDue(0, "c", 9, "4444");
        s.notify("close", "['c']").wholeDue(0, "a", 2, "22").wholeDue(1, "b", 3, "333")
            .documentDue(2, 0, Session.OUTSIDE);
        s.open("c", 5, "5").wholeDue(0, "a", 2, "22").wholeDue(1, "b", 3, "333").wholeDue(2, "c", 5, "5");
        s.notify("close", "['b']").wholeDue(0, "a", 2, "22").wholeDue(1, "c", 5, "5").documentsDue(2);
    }

    /** "a NAME (1 to 4 characters)" */
    private static void nameOfOneToFour() {
        String name = "abcdefgh";
        for (int size = 0; size <= 8; size++) {
            boolean fits = size >= 1 && size <= 4;
            Session s = Session.ready("a name of " + size).open(name.substring(0, size), 1, "x")
                .documentsDue(fits ? 1 : 0).ignoredDue(fits ? 0 : 1).responsesDue(1);
            if (fits) {
                s.wholeDue(0, name.substring(0, size), 1, "x");
            }
        }
        Session.ready("four that are written longer").open("\\n\\\"\\\\\\n", 1, "").wholeDue(0, "\n\"\\\n", 1, "");
        Session.ready("five that are written longer").open("\\n\\\"\\\\\\n\\n", 1, "").documentsDue(0).ignoredDue(1);
        Session.ready("a blank, a tilde").open(" ", 1, "").open("~", 1, "").wholeDue(0, " ", 1, "")
            .wholeDue(1, "~", 1, "");
    }

    /** "a VERSION, a number" */
    private static void versionIsANumber() {
        for (int version : new int[] {-999999, -1, 0, 1, 999999}) {
            Session.ready("version " + version).open("a", version, "x").wholeDue(0, "a", version, "x").ignoredDue(0);
        }
    }

    /** "a TEXT of at most 60 characters 32 .. 126 and 10" */
    private static void textOfAtMostSixtyWhenOpened() {
        for (int size : new int[] {0, 1, 59, 60}) {
            Session.withText("a text of " + size, SIXTY.substring(0, size))
                .wholeDue(0, "a", 1, SIXTY.substring(0, size)).ignoredDue(0);
        }
        for (int size : new int[] {61, 62, 120}) {
            Session.withText("a text of " + size, "x".repeat(size)).documentsDue(0).ignoredDue(1).open("a", 2, "y")
                .wholeDue(0, "a", 2, "y");
        }
        Session.withText("60 line ends", "\\n".repeat(60)).documentDue(0, 1, 60).documentDue(0, 3, 61).ignoredDue(0);
        Session.withText("61 line ends", "\\n".repeat(61)).documentsDue(0).ignoredDue(1);
        Session.withText("60 tildes, which are wide", "~".repeat(60)).documentDue(0, 1, 60).ignoredDue(0);
        Session.withText("the first and the last", " ~\\n").wholeDue(0, "a", 1, " ~\n");
    }

    /** "If .. a text would be too long, nothing of it is done.": the whole new text. */
    private static void textOfAtMostSixtyWhenReplaced() {
        for (int size : new int[] {0, 1, 59, 60}) {
            Session.withText("a new text of " + size, "one").notify("change", "['a',2,'" + "x".repeat(size) + "']")
                .wholeDue(0, "a", 2, "x".repeat(size)).ignoredDue(0);
        }
        for (int size : new int[] {61, 100}) {
            Session.withText("a new text of " + size, "one").notify("change", "['a',2,'" + "x".repeat(size) + "']")
                .wholeDue(0, "a", 1, "one").ignoredDue(1);
        }
        Session.withText("60 for 60", SIXTY).notify("change", "['a',2,'" + "x".repeat(60) + "']")
            .wholeDue(0, "a", 2, "x".repeat(60)).ignoredDue(0);
    }

    /** The same sentence: what lies between two positions. */
    private static void textOfAtMostSixtyWhenEdited() {
        String half = SIXTY.substring(0, 30);
        edited("30 and 30", half, "[0,30,0,30,'" + half + "']", half + half);
        edited("30 and 31", half, "[0,30,0,30,'" + half + "x']", null);
        edited("60 and none", SIXTY, "[0,5,0,5,'']", SIXTY);
        edited("60 and one", SIXTY, "[0,5,0,5,'x']", null);
        edited("60, ten for ten", SIXTY, "[0,10,0,20,'abcdefghij']",
            half.substring(20) + "abcdefghij" + SIXTY.substring(20));
        edited("60, eleven for ten", SIXTY, "[0,10,0,20,'abcdefghijk']", null);
        edited("60, all for 60", SIXTY, "[0,0,1,0,'" + "x".repeat(60) + "']", "x".repeat(60));
        edited("60, all for 61", SIXTY, "[0,0,1,0,'" + "x".repeat(61) + "']", null);
        edited("61 between two edits", half, "[0,0,0,0,'" + half + "x'],[0,0,0,1,'']", null);
        edited("61 before the whole text", half, "[0,0,0,0,'" + half + "x'],'y'", null);
        edited("61 whole before an edit", half, "'" + SIXTY + "x',[0,0,0,1,'']", null);
        edited("60 between two edits", half, "[0,0,0,0,'" + half + "'],[0,1,0,60,'']", "0");
    }

    private static void edited(String title, String text, String edits, String after) {
        Session.withText(title, text).notify("change", "['a',2," + edits + "]")
            .wholeDue(0, "a", after == null ? 1 : 2, after == null ? text : after).ignoredDue(after == null ? 1 : 0);
    }

    /** "Its LINES end with character 10 (the last one with the text)." */
    private static void howManyLines() {
        String[] texts = {"", "a", "\\n", "a\\n", "\\na", "a\\nb", "\\n\\n", "a\\n\\nb", "a\\nb\\n", "\\\\n", "nnn"};
        int[] lines = {1, 1, 2, 2, 2, 2, 3, 3, 3, 1, 1};
        for (int i = 0; i < texts.length; i++) {
            Session.withText("lines of " + texts[i], texts[i]).documentDue(0, 3, lines[i]);
        }
    }

    /** "its version (what = 0), the length of its text (1), of its name (2), how many lines (3)" */
    private static void partsOfADocument() {
        Session.ready("parts").open("abc", 77, "x\\ny\\nzzzz").documentDue(0, 0, 77).documentDue(0, 1, 8)
            .documentDue(0, 2, 3).documentDue(0, 3, 3);
    }

    /** "IndexOutOfBoundsException if there is none" */
    private static void noSuchDocument() {
        Session.ready("no document").documentDue(0, 0, Session.OUTSIDE).textDue(0, 0, Session.OUTSIDE)
            .nameDue(0, 0, Session.OUTSIDE);
        for (int open = 1; open <= 3; open++) {
            Session s = Session.ready(open + " documents");
            for (int i = 0; i < open; i++) {
                s.open("abc".substring(i, i + 1), i, "xyz");
            }
            s.documentDue(open - 1, 0, open - 1).textDue(open - 1, 0, 'x').nameDue(open - 1, 0, "abc".charAt(open - 1));
            for (int d : new int[] {-1, open, 3, 4, Integer.MIN_VALUE, Integer.MAX_VALUE}) {
                s.documentDue(d, 0, Session.OUTSIDE).documentDue(d, 3, Session.OUTSIDE).textDue(d, 0, Session.OUTSIDE)
                    .nameDue(d, 0, Session.OUTSIDE);
            }
        }
        Session.withText("closed", "xyz").notify("close", "['a']").documentDue(0, 0, Session.OUTSIDE)
            .textDue(0, 0, Session.OUTSIDE).nameDue(0, 0, Session.OUTSIDE);
    }

    /** "IllegalArgumentException if there is no such what"; the index is looked at first, as it is told first. */
    private static void noSuchWhat() {
        Session s = Session.withText("what", "xyz").documentDue(0, 0, 1).documentDue(0, 3, 1);
        for (int what : new int[] {-1, 4, Integer.MIN_VALUE, Integer.MAX_VALUE}) {
            s.documentDue(0, what, Session.NO_SUCH).documentDue(1, what, Session.OUTSIDE)
                .documentDue(-1, what, Session.OUTSIDE);
        }
        s.wholeDue(0, "a", 1, "xyz");
    }

    /** "Character i of the text of document d. IndexOutOfBoundsException if there is none." */
    private static void noSuchCharacterOfText() {
        Session s = Session.withText("characters of the text", "xyz").textDue(0, 0, 'x').textDue(0, 2, 'z');
        for (int i : new int[] {-1, 3, 59, 60, 61, Integer.MIN_VALUE, Integer.MAX_VALUE}) {
            s.textDue(0, i, Session.OUTSIDE);
        }
        s.notify("change", "['a',2,'x']").textDue(0, 0, 'x').textDue(0, 1, Session.OUTSIDE)
            .notify("change", "['a',3,'']").textDue(0, 0, Session.OUTSIDE).textDue(0, -1, Session.OUTSIDE);
        Session.withText("characters of 60", SIXTY).textDue(0, 59, '9').textDue(0, 60, Session.OUTSIDE);
    }

    /** "Character i of the name of document d. IndexOutOfBoundsException if there is none." */
    private static void noSuchCharacterOfName() {
        Session s = Session.ready("characters of the name").open("abcd", 1, "").nameDue(0, 0, 'a').nameDue(0, 3, 'd');
        for (int i : new int[] {-1, 4, 5, Integer.MIN_VALUE, Integer.MAX_VALUE}) {
            s.nameDue(0, i, Session.OUTSIDE);
        }
        s.notify("close", "['abcd']").open("e", 1, "").nameDue(0, 0, 'e').nameDue(0, 1, Session.OUTSIDE);
    }
}
