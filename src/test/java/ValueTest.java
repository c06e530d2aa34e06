/**
 * What is a VALUE and what is none; each method quotes the sentence it holds the program to.
 *
 * A value that is no message is answered with -32600, what is no value with -32700.
 */
final class ValueTest {
    public static void main(String[] args) {
        oneValue();
        brokenOffAtTwoHundred();
        brokenOffBeforeOldCharacters();
        blanksAndLineEnds();
        blanksWithinAValue();
        words();
        numbers();
        digitsOfANumber();
        whatANumberIs();
        charactersOfAString();
        escapes();
        whatEscapesStandFor();
        endOfAString();
        arrays();
        objects();
        empties();
        sixDeep();
        fortyValues();
        firstMemberCounts();
        namesInFull();
        Session.end();
    }

    private static void good(String... bodies) {
        for (String body : bodies) {
            new Session("value " + body).send(body).errorDue(null, -32600).responsesDue(1).stateDue(0);
        }
    }

    private static void bad(String... bodies) {
        for (String body : bodies) {
            new Session("no value " + body).send(body).errorDue(null, -32700).responsesDue(1).stateDue(0);
        }
    }

    private static void goodOrBad(boolean isGood, String body) {
        if (isGood) {
            good(body);
        } else {
            bad(body);
        }
    }

    /** "A BODY is one VALUE" */
    private static void oneValue() {
        good("1", "[]", "\"\"");
        bad(" ", "\n", "  \n ", "1 2", "1,2", "[][]", "{}{}", "true false", "\"a\"\"b\"", "1,", ",1", "[1]]",
            "{\"a\":1}}", "{\"a\":1},", ":", ",", "x");
    }

    /** The longest body is where a reader could look behind its row. */
    private static void brokenOffAtTwoHundred() {
        for (String end : new String[] {"", "-", "[", "{", "[1", "[1,", "[]]", "t", "tru", "fals", "nul", "\"", "\"a",
            "\"\\", "\"\\\"", "{\"", "{\"a", "{\"a\"", "{\"a\":", "{\"a\":1", "{\"a\":1,", "{\"a\\", "1234567",
            "[[[[[[["}) {
            bad(" ".repeat(200 - end.length()) + end, end + " ".repeat(200 - end.length()));
        }
        for (String end : new String[] {"1", "-1", "123456", "true", "false", "null", "\"a\"", "[]", "{}", "[1]",
            "{\"a\":1}"}) {
            good(" ".repeat(200 - end.length()) + end, end + " ".repeat(200 - end.length()));
        }
    }

    /** A body ends where its frame ends, though the rest of an older one would fit behind it. */
    private static void brokenOffBeforeOldCharacters() {
        for (String body : new String[] {"true", "[1]", "[\"a\"]", "{\"a\":1}", "\"\\n\"", "[1,2]", "  1"}) {
            Session s = new Session("broken off " + body);
            for (int cut = 1; cut < body.length(); cut++) {
                s.send(body).errorDue(null, -32600).send(body.substring(0, cut)).errorDue(null, -32700);
            }
        }
    }

    /** "with blanks and characters 10 before and behind every value and every one of , : [ ] { }" */
    private static void blanksAndLineEnds() {
        String[] pieces = {"{", "\"a\"", ":", "[", "1", ",", "\"b\"", ",", "[", "]", ",", "{", "}", ",", "true", "]",
            ",", "\"c\"", ":", "null", "}"};
        for (int gap = 0; gap <= pieces.length; gap++) {
            StringBuilder before = new StringBuilder();
            StringBuilder behind = new StringBuilder();
            for (int i = 0; i < pieces.length; i++) {
                (i < gap ? before : behind).append(pieces[i]);
            }
            for (char c = 1; c < 32; c++) {
                goodOrBad(c == 10, before.toString() + c + behind);
            }
            good(before + " " + behind, before + " \n\n  \n" + behind);
            bad(before + "\u007f" + behind);
        }
        good(" 1", "1 ", "\n1\n", " [ ] ", "[ 1 , 2 ]", "[\n1\n,\n2\n]", " { } ", "\n{ \"a\" : 1 , \"b\"\n:\n2 }\n");
        good(" ".repeat(199) + "1", "1" + "\n".repeat(199));
    }

    private static void blanksWithinAValue() {
        bad("t rue", "tru e", "fal\nse", "nu ll", "1 0", "- 1", "-\n1", "\"\\ n\"", "\"\n\"", "\"a\nb\"");
        good("\" \"", "\"a b\"");
    }

    /** "A value is true, false, null" */
    private static void words() {
        good("true", "false", "null", "[true,false,null]");
        for (String word : new String[] {"true", "false", "null"}) {
            for (int cut = 1; cut < word.length(); cut++) {
                bad(word.substring(0, cut), word.substring(cut), "[" + word.substring(0, cut) + "]");
            }
            bad(word + "e", word + word, word + "1", "1" + word, word.toUpperCase(), word.replace('e', 'E')
                .replace('l', 'L'), "[" + word + "x]");
        }
        bad("truefalse", "undefined", "True", "nil", "fa1se");
    }

    /** "a NUMBER (- or not, then 0, or 1 to 6 digits of which the first is not 0; -0 is none)" */
    private static void numbers() {
        good("0", "1", "9", "-1", "-9", "[0,-1]");
        bad("-0", "-", "--1", "+1", "+0", "1-", "-1-", "[-0]", "[-]", "-00", "-01");
        bad("1.0", "1.", ".1", ".", "1e1", "1E1", "0x", "0x1", "12a", "a1", "1/", "1;", "0-", "-a");
    }

    private static void digitsOfANumber() {
        for (int digits = 1; digits <= 9; digits++) {
            String zeros = "0".repeat(digits - 1);
            String nines = "9".repeat(digits);
            for (String number : new String[] {"1" + zeros, "-1" + zeros, nines, "-" + nines, "5" + zeros}) {
                goodOrBad(digits <= 6, number);
                goodOrBad(digits <= 6, "[" + number + "]");
            }
            bad("0" + nines, "-0" + nines, "00" + zeros, "-00" + zeros, "[0" + nines + "]");
        }
        bad("01", "00", "007", "012345", "0123456", "000000", "0000000");
    }

    private static void whatANumberIs() {
        int[] ids = {0, 1, 9, 10, 11, 90, 99, 100, 101, 999, 1000, 9999, 10000, 54321, 99999, 100000, 123456, 987654,
            999999};
        for (int id : ids) {
            new Session("id " + id).request(id, "x", "0").errorDue(id, -32002);
            if (id != 0) {
                new Session("id -" + id).request(-id, "x", "0").errorDue(-id, -32002);
            }
        }
        for (int id : new int[] {1000000, -1000000, 1234567}) {
            new Session("id " + id).request(id, "x", "0").errorDue(null, -32700);
        }
    }

    /** "a STRING (\" ; characters 32 .. 126 without \" and \\ .." */
    private static void charactersOfAString() {
        for (char c = 1; c <= 127; c++) {
            boolean fits = c >= 32 && c <= 126 && c != '"' && c != '\\';
            goodOrBad(fits, "\"" + c + "\"");
            goodOrBad(fits, "\"a" + c + "b\"");
            goodOrBad(fits, "{\"" + c + "\":1}");
        }
        char[] all = new char[95];
        for (int i = 0; i < all.length; i++) {
            all[i] = (char) (32 + i);
        }
        String plain = new String(all).replace("\"", "").replace("\\", "");
        openedIs(plain.substring(0, 50), plain.substring(0, 50));
        openedIs(plain.substring(50), plain.substring(50));
    }

    /** ".. \\\" \\\\ \\n .." and no other */
    private static void escapes() {
        for (char c = 1; c <= 127; c++) {
            boolean fits = c == '"' || c == '\\' || c == 'n';
            goodOrBad(fits, "\"\\" + c + "\"");
            goodOrBad(fits, "{\"\\" + c + "\":1}");
        }
        good("\"\\\\n\"", "\"\\\\\\n\"", "\"\\\\\\\\\"", "\"\\n\\n\"");
        bad("\"\\\\\\\"", "\"\\u0041\"", "\"\\\\\\t\"");
    }

    /** ".. stand for \" \\ and character 10" */
    private static void whatEscapesStandFor() {
        openedIs("\\\"", "\"");
        openedIs("\\\\", "\\");
        openedIs("\\n", "\n");
        openedIs("\\\\n", "\\n");
        openedIs("n\\n\\\\\\\"n", "n\n\\\"n");
    }

    private static void openedIs(String written, String text) {
        Session.ready("text " + written).send("{\"method\":\"open\",\"params\":[\"a\",1,\"" + written + "\"]}")
            .wholeDue(0, "a", 1, text);
    }

    /** ".. \")": the closing one must be there, and behind it nothing of the string. */
    private static void endOfAString() {
        good("\"\"", "\"a\"");
        bad("\"", "\"a", "a\"", "\"\\\"", "\"\\", "\"a\"b", "'a'", "\"\"\"", "[\"a]", "[\"]", "{\"a:1}", "\"\t",
            "\"\\t", "[\"\t]", "[\"\\t]");
        String longest = "\"" + "x".repeat(198) + "\"";
        good(longest, "\"" + "\\n".repeat(99) + "\"");
        bad("\"" + "x".repeat(199), "\"" + "\\n".repeat(98) + "\\\"");
        Session s = new Session("nothing is left of a longer body").send("[\"a\"]").errorDue(null, -32600);
        s.send("[\"a").errorDue(null, -32700).send("tru").errorDue(null, -32700);
    }

    /** "an ARRAY [ values with , between ]" */
    private static void arrays() {
        good("[1]", "[1,2]", "[\"a\",true,[],{}]", "[[1],[2]]");
        bad("[", "]", "[1", "[1,", "[1,]", "[,1]", "[,]", "[1,,2]", "[1 2]", "[[1]", "[1}", "[1:2]", "[1;2]",
            "[\"a\":1]", "[[]", "[]]", "[1)", "(1]", "[}");
    }

    /** "an OBJECT { members with , between }; a member is a string (its NAME), a colon and a value" */
    private static void objects() {
        good("{\"a\":1}", "{\"a\":1,\"b\":[2]}", "{\"\":0}", "{\"a\":1,\"a\":2}", "{\"a\":{\"a\":{}}}",
            "{\"\\n\\\"\\\\\":1}", "{\"a\":\"b\"}");
        bad("{", "}", "{]", "{\"a\"}", "{\"a\":}", "{\"a\":1", "{\"a\":1,}", "{,}", "{,\"a\":1}", "{\"a\":1,,\"b\":2}",
            "{\"a\" 1}", "{\"a\":1 \"b\":2}", "{\"a\":1]", "{:1}", "{\"a\"::1}", "{\"a\",1}", "{\"a\":1:2}",
            "{\"a\":1 2}", "{\"a\"", "{\"a\":", "{\"", "{\"a\":1,\"b\"}", "{\"a\":1;\"b\":2}", "{\"a\"=1}");
        bad("{a:1}", "{1:1}", "{null:1}", "{true:1}", "{[]:1}", "{{}:1}", "{1}", "{[]}", "{{}}", "{true}",
            "{\"a\":1,2}", "{\"a\":1,{}}", "{-1:1}", "{a\":1}", "{\":1}", "{\"a\":1,b\":2}", "{a\"\":1}");
    }

    /** "Arrays and objects may be empty" */
    private static void empties() {
        good("[]", "{}", "[[]]", "[{}]", "{\"a\":[]}", "{\"a\":{}}", "[[],[]]", "[ ]", "{\n}");
        new Session("an empty object is an object").send("{}").errorDue(null, -32600);
    }

    /** "they are at most 6 deep" */
    private static void sixDeep() {
        for (int depth = 1; depth <= 20; depth++) {
            goodOrBad(depth <= 6, "[".repeat(depth) + "]".repeat(depth));
            goodOrBad(depth <= 6, "[".repeat(depth) + "1" + "]".repeat(depth));
            goodOrBad(depth <= 6, "{\"a\":".repeat(depth) + "1" + "}".repeat(depth));
            goodOrBad(depth <= 6, "{\"a\":".repeat(depth - 1) + "{}" + "}".repeat(depth - 1));
            goodOrBad(depth <= 5, "[{\"a\":".repeat(depth / 2) + "[[]]" + "}]".repeat(depth / 2));
        }
        good("[{\"a\":[{\"a\":[{}]}]}]", "[[[[[[]]]]],[[[[[]]]]],1]", "[[[[[[],[]],[]]]]]", "[[[[[[\"a\",1,null]]]]]]");
        bad("[[[[[[{}]]]]]]", "[{\"a\":[{\"a\":[{\"a\":[]}]}]}]", "[[[[[[1,[]]]]]]]", "[1,[[[[[[]]]]]]]",
            "[".repeat(200));
    }

    /** "a body has at most 40 values (those in arrays and objects counted, names not)" */
    private static void fortyValues() {
        for (int values = 2; values <= 60; values++) {
            goodOrBad(values <= 40, "[" + "1,".repeat(values - 2) + "1]");
            goodOrBad(values <= 40, "[" + "[],".repeat(values - 2) + "{}]");
            goodOrBad(values <= 39, "[[" + "1,".repeat(values - 2) + "1]]");
            goodOrBad(values <= 39, "{\"a\":[" + "1,".repeat(values - 2) + "[]]}");
        }
        good("[" + "\"\",".repeat(38) + "\"\"]");
        bad("[" + "\"\",".repeat(39) + "\"\"]", "[" + "1,".repeat(98) + "1]");
        good("{" + "\"\":1,".repeat(38) + "\"\":1}");
        String members = "\"\":[1,1],";
        good("{" + members.repeat(12) + "\"\":[1,1]}");
        bad("{" + members.repeat(12) + "\"\":[1,1,1]}", "{" + members.repeat(13) + "\"\":1}");
        new Session("counted anew in each body").send("[" + "1,".repeat(38) + "1]").send("[" + "1,".repeat(38) + "1]")
            .responseDue(0, 3, -32600).responseDue(1, 3, -32600);
    }

    /** "Of members with one name the first one counts." */
    private static void firstMemberCounts() {
        new Session("the first id").say("{'id':1,'id':2,'id':3,'method':'x'}").errorDue(1, -32002);
        new Session("the first id, no number").say("{'id':null,'id':2,'method':'x'}").errorDue(null, -32600);
        new Session("the second id, no number").say("{'id':2,'id':null,'method':'x'}").errorDue(2, -32002);
        new Session("the first method").say("{'id':1,'method':'initialize','method':'x'}").resultDue(1, 0);
        new Session("the second method").say("{'id':1,'method':'x','method':'initialize'}").errorDue(1, -32002);
        new Session("the first method, no string").say("{'id':1,'method':1,'method':'initialize'}").errorDue(1, -32600)
            .stateDue(0);
        new Session("the second method, no string").say("{'id':1,'method':'initialize','method':1}").resultDue(1, 0);
        Session.withText("the first params", "xy")
            .say("{'id':1,'method':'length','params':['b'],'params':['a']}").errorDue(1, -32602)
            .say("{'id':1,'method':'length','params':null,'params':['a']}").errorDue(1, -32602)
            .say("{'id':2,'method':'length','params':['a'],'params':['b']}").waitingDue(1).runDue(0, 2).resultDue(2, 2);
    }

    private static void namesInFull() {
        new Session("names that only begin so").say("{'i':1,'idd':2,'id ':3,'ID':4,'':5,'method':'x'}").responsesDue(0);
        new Session("no method in full")
            .say("{'id':1,'metho':'initialize','methods':'initialize','Method':'initialize'}").errorDue(1, -32600)
            .stateDue(0);
        Session.withText("no params in full", "xy").say("{'id':1,'method':'length','param':['a'],'paramss':['a']}")
            .errorDue(1, -32602);
        new Session("members of members").say("{'a':{'id':5,'method':'initialize'},'id':7}").errorDue(7, -32600);
        new Session("members behind members").say("{'a':{'id':5},'b':[{'id':6}],'id':7,'method':'x'}")
            .errorDue(7, -32002);
    }
}
