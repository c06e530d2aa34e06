/** Every case of a POSITION, and promise 16; each method quotes the sentence it holds the program to. */
final class PositionTest {
    public static void main(String[] args) {
        notSoManyLines();
        lineBelowZero();
        unitsWithinALine();
        atMostTheEndOfTheLine();
        unitsBelowZero();
        wideCharacters();
        textsWithoutCharacters();
        farNumbers();
        noSuchDocument();
        eachDocumentItsOwn();
        positionsOfAt();
        positionsOfEdits();
        whicheverIsFirst();
        Session.end();
    }

    /** "A POSITION is a line and so many units, numbers; it means a place in the text": rows of these three. */
    private static void places(String text, int[][] due) {
        Session s = Session.withText("places in " + text, text);
        for (int[] row : due) {
            s.placeDue(0, row[0], row[1], row[2]);
        }
    }

    /** "its end, if it has not so many lines (line 0 is the first one)" */
    private static void notSoManyLines() {
        places("ab\\ncd", new int[][] {{0, 0, 0}, {1, 0, 3}, {1, 1, 4}, {2, 0, 5}, {2, 1, 5}, {2, -1, 5}, {3, 0, 5},
            {99, 0, 5}});
        places("ab\\ncd\\n", new int[][] {{1, 0, 3}, {1, 2, 5}, {2, 0, 6}, {2, 1, 6}, {3, 0, 6}, {3, -1, 6}});
        places("abc", new int[][] {{0, 0, 0}, {0, 2, 2}, {1, 0, 3}, {1, -1, 3}, {2, 0, 3}});
    }

    /** "its beginning, if the line is below 0" */
    private static void lineBelowZero() {
        places("ab\\ncd", new int[][] {{-1, 0, 0}, {-1, 1, 0}, {-1, 99, 0}, {-1, -1, 0}, {-2, 5, 0}, {0, 1, 1}});
    }

    /** "else, in the line, the last place .. that is not more than so many units behind its beginning" */
    private static void unitsWithinALine() {
        places("abc\\nde\\n\\nf", new int[][] {{0, 0, 0}, {0, 1, 1}, {0, 2, 2}, {0, 3, 3}, {1, 0, 4}, {1, 1, 5},
            {1, 2, 6}, {2, 0, 7}, {3, 0, 8}, {3, 1, 9}});
    }

    /** "(at most its end)": before the character 10 that ends it. */
    private static void atMostTheEndOfTheLine() {
        places("abc\\nde\\n\\nf", new int[][] {{0, 3, 3}, {0, 4, 3}, {0, 5, 3}, {0, 99, 3}, {1, 2, 6}, {1, 3, 6},
            {1, 4, 6}, {2, 1, 7}, {2, 2, 7}, {3, 1, 9}, {3, 2, 9}, {3, 99, 9}});
    }

    /** "(its beginning, if they are below 0)" */
    private static void unitsBelowZero() {
        places("abc\\nde\\n\\nf", new int[][] {{0, -1, 0}, {0, -99, 0}, {1, -1, 4}, {1, -2, 4}, {2, -1, 7},
            {3, -1, 8}});
        places("~\\n~", new int[][] {{0, -1, 0}, {1, -1, 2}, {1, -2, 2}});
    }

    /** "Every character is one UNIT wide, but ~ is two." */
    private static void wideCharacters() {
        places("a~b", new int[][] {{0, 0, 0}, {0, 1, 1}, {0, 2, 1}, {0, 3, 2}, {0, 4, 3}, {0, 5, 3}});
        places("~~\\n~c~", new int[][] {{0, 0, 0}, {0, 1, 0}, {0, 2, 1}, {0, 3, 1}, {0, 4, 2}, {0, 5, 2}, {1, 0, 3},
            {1, 1, 3}, {1, 2, 4}, {1, 3, 5}, {1, 4, 5}, {1, 5, 6}, {1, 6, 6}});
        places(" }\\\"\\\\|", new int[][] {{0, 1, 1}, {0, 2, 2}, {0, 3, 3}, {0, 4, 4}, {0, 5, 5}, {0, 6, 5}});
        places("~".repeat(60), new int[][] {{0, 60, 30}, {0, 118, 59}, {0, 119, 59}, {0, 120, 60}, {0, 121, 60}});
        for (char c = 32; c <= 126; c++) {
            if (c != '"' && c != '\\') {
                Session s = Session.ready("width of " + c)
                    .send("{\"method\":\"open\",\"params\":[\"a\",1,\"" + c + "b\"]}");
                s.placeDue(0, 0, 1, c == '~' ? 0 : 1).placeDue(0, 0, 2, c == '~' ? 1 : 2);
            }
        }
    }

    private static void textsWithoutCharacters() {
        places("", new int[][] {{0, 0, 0}, {0, 1, 0}, {0, -1, 0}, {1, 0, 0}, {-1, 0, 0}, {5, 5, 0}});
        places("\\n", new int[][] {{0, 0, 0}, {0, 1, 0}, {1, 0, 1}, {1, 1, 1}, {2, 0, 1}, {-1, 1, 0}});
        places("\\n\\n", new int[][] {{0, 9, 0}, {1, 0, 1}, {1, 9, 1}, {2, 0, 2}, {3, 0, 2}});
    }

    private static void farNumbers() {
        int most = Integer.MAX_VALUE;
        int least = Integer.MIN_VALUE;
        places("a~\\nbc", new int[][] {{0, most, 2}, {1, most, 5}, {2, most, 5}, {most, 0, 5}, {most, most, 5},
            {most, least, 5}, {0, least, 0}, {1, least, 3}, {least, 0, 0}, {least, most, 0}, {least, least, 0},
            {-1, most, 0}});
    }

    /** "IndexOutOfBoundsException if there is no such document." */
    private static void noSuchDocument() {
        new Session("new").placeDue(0, 0, 0, Session.OUTSIDE).placeDue(-1, 0, 0, Session.OUTSIDE);
        Session s = Session.ready("two").open("a", 1, "xyz").open("b", 1, "").placeDue(1, 0, 0, 0);
        for (int d : new int[] {-1, 2, 3, Integer.MIN_VALUE, Integer.MAX_VALUE}) {
            s.placeDue(d, 0, 0, Session.OUTSIDE).placeDue(d, -1, -1, Session.OUTSIDE);
        }
        s.notify("close", "['a']").placeDue(0, 1, 0, 0).placeDue(1, 0, 0, Session.OUTSIDE);
    }

    /** "The place in the text of document d that a position means." */
    private static void eachDocumentItsOwn() {
        Session.ready("three texts").open("a", 1, "~~").open("b", 1, "xyz").open("c", 1, "\\nq").placeDue(0, 0, 2, 1)
            .placeDue(1, 0, 2, 2).placeDue(2, 0, 2, 0).placeDue(2, 1, 2, 2).notify("change", "['b',2,'~']")
            .placeDue(1, 0, 2, 1).placeDue(1, 0, 9, 1);
    }

    /** "of at the character at that position" */
    private static void positionsOfAt() {
        Session s = Session.withText("at", "ab\\n~c");
        int[][] due = {{-1, 5, 'a'}, {0, -1, 'a'}, {0, 0, 'a'}, {0, 1, 'b'}, {0, 2, 10}, {0, 3, 10}, {1, -1, '~'},
            {1, 0, '~'}, {1, 1, '~'}, {1, 2, 'c'}};
        for (int[] row : due) {
            s.request(7, "at", "['a'," + row[0] + "," + row[1] + "]").runDue(0, 7).resultDue(7, row[2]);
        }
        int[][] none = {{1, 3}, {1, 4}, {2, 0}, {2, -1}, {999999, 0}};
        for (int[] row : none) {
            s.request(8, "at", "['a'," + row[0] + "," + row[1] + "]").runDue(0, 8).errorDue(8, -32603);
        }
    }

    private static void edit(String text, String edit, String after) {
        Session.withText("edit " + text + " " + edit, text).notify("change", "['a',2," + edit + "]")
            .wholeDue(0, "a", 2, after).ignoredDue(0);
    }

    /** "what lies between both positions .. is replaced" */
    private static void positionsOfEdits() {
        edit("abcdef", "[0,2,0,4,'']", "abef");
        edit("abcdef", "[0,3,0,3,'-']", "abc-def");
        edit("ab\\ncd\\nef", "[0,1,2,1,'-']", "a-f");
        edit("ab\\ncd\\nef", "[0,2,1,0,'']", "abcd\nef");
        edit("ab\\ncd", "[0,99,0,99,'\\n']", "ab\n\ncd");
        edit("ab\\ncd", "[9,0,9,9,'!']", "ab\ncd!");
        edit("ab\\ncd", "[2,-1,2,-1,'!']", "ab\ncd!");
        edit("ab\\ncd", "[-1,7,0,1,'!']", "!b\ncd");
        edit("ab\\ncd", "[1,-1,1,1,'!']", "ab\n!d");
        edit("ab\\ncd", "[-999999,0,999999,0,'!']", "!");
        edit("a~b", "[0,1,0,2,'!']", "a!~b");
        edit("a~b", "[0,1,0,3,'!']", "a!b");
        edit("", "[0,0,5,5,'\\\\n']", "\\n");
        edit("abc", "[0,0,0,3,'']", "");
    }

    /** "(whichever is first)" */
    private static void whicheverIsFirst() {
        edit("abcdef", "[0,2,0,4,'XYZ']", "abXYZef");
        edit("abcdef", "[0,4,0,2,'XYZ']", "abXYZef");
        edit("ab\\ncd\\nef", "[2,1,0,1,'-']", "a-f");
        edit("ab\\ncd", "[1,0,0,2,'']", "abcd");
        edit("ab\\ncd", "[9,9,-1,0,'']", "");
    }
}
