/** INPUT, FRAME, HEADER and BODY, and promise 2; each method quotes the sentence it holds the program to. */
final class FrameTest {
    public static void main(String[] args) {
        lowestBitsFirst();
        charactersThatAreNone();
        charactersThatAreNoneWithinAFrame();
        howManyBodiesSoFar();
        oneToThreeDigits();
        bodyOfSoManyCharacters();
        anotherCharacter();
        colonWithoutDigits();
        fourthDigit();
        zeroOrMoreThanTwoHundred();
        onlyTheColonJudgesTheNumber();
        headersBehindAFrame();
        Session.end();
    }

    /** "Four characters of the input, the lowest eight bits first" */
    private static void lowestBitsFirst() {
        Session s = new Session("lowest bits first");
        s.due("feed", () -> s.server().feed('2' | ':' << 8 | '1' << 16 | '2' << 24), 1);
        s.errorDue(null, -32600);
        Session t = new Session("all four in their order");
        t.due("feed", () -> t.server().feed('1' | ':' << 8 | '{' << 16 | '1' << 24), 1);
        t.due("feed", () -> t.server().feed(':' | '7' << 8 | ':' << 16 | '1' << 24), 2);
        t.responseDue(0, 3, -32700).responseDue(1, 3, -32600).responsesDue(2).stateDue(4);
    }

    /** "(a character 0, or 128 and more, is none, and passed over)": each character in each of the four places. */
    private static void charactersThatAreNone() {
        for (int c = 0; c <= 255; c++) {
            boolean is = c >= 1 && c <= 127;
            for (int shift = 0; shift < 32; shift += 8) {
                int four = c << shift;
                Session s = new Session("character " + c + " shifted by " + shift);
                s.feedDue("2:", 0).due("feed", () -> s.server().feed(four), 0);
                s.feedDue("x", is ? 1 : 0).responsesDue(is ? 1 : 0).stateDue(0);
            }
        }
        int[] none = {0, -1, Integer.MIN_VALUE, 0x80808080, 0x00ff0080, 0xff000000};
        for (int four : none) {
            Session s = new Session("no character in " + four);
            s.due("feed", () -> s.server().feed(four), 0).stateDue(0).feedDue("1:1", 1).responsesDue(1);
        }
    }

    /** "INPUT is a row of characters 1 .. 127, four at a time." */
    private static void charactersThatAreNoneWithinAFrame() {
        new Session("none in header and body").feedDue("\u00800\0\u00ff0\0\0\u00804\u00c8\0:\0t\u00ffr\u0080u\0", 0)
            .feedDue("\u00ff\u00ff\0e", 1).errorDue(null, -32600).stateDue(0);
        new Session("none between frames").feedDue("1:1\0\u00801:1", 2).responsesDue(2).stateDue(0);
        new Session("1 and 127 in a body").feedDue("1:\u0001", 1).errorDue(null, -32700)
            .feedDue("1:\u007f", 2).errorDue(null, -32700).responsesDue(2);
        new Session("1 in a header").feedDue("\u0001", 0).stateDue(4);
        new Session("127 in a header").feedDue("\u007f", 0).stateDue(4);
        new Session("128 in a header").feedDue("\u0080", 0).stateDue(0);
    }

    /** "how many bodies were read so far": those that are no value too, and none of them twice. */
    private static void howManyBodiesSoFar() {
        new Session("no body yet").feedDue("", 0).feedDue("3:12", 0).feedDue("3", 1).feedDue("\0", 1);
        new Session("good and bad bodies").feedDue("1:1", 1).feedDue("1:[", 2).send("{\"method\":\"x\"}")
            .feedDue("\0", 3).responsesDue(2);
        new Session("a frame ends and one begins").feedDue("1:11:11:", 2).responsesDue(2).feedDue("1", 3)
            .responsesDue(3);
        new Session("two bodies in one call").feedDue("1", 0).feedDue(":11:", 1).feedDue("11:1", 3).responsesDue(3);
    }

    /** "a HEADER, one to three digits and a colon" */
    private static void oneToThreeDigits() {
        new Session("digits").feedDue("1:1", 1).feedDue("01:1", 2).feedDue("001:1", 3).stateDue(0);
        new Session("two that are not zero").feedDue("10:123456789", 0).feedDue("0", 1).errorDue(null, -32700);
        new Session("all digits").feedDue("98:" + " ".repeat(97), 0).feedDue("7", 1).feedDue("076:" + " ".repeat(75), 1)
            .feedDue("5", 2).feedDue("143:" + " ".repeat(142), 2).feedDue("2", 3).stateDue(0).responsesDue(3);
    }

    /** "a BODY of so many characters, 1 to 200" */
    private static void bodyOfSoManyCharacters() {
        String blanks = " ".repeat(200);
        for (int n = 1; n <= 200; n++) {
            new Session("a body of " + n).feedDue(n + ":" + blanks.substring(0, n - 1), 0).responsesDue(0)
                .feedDue("1", 1).responsesDue(1).errorDue(null, -32600).stateDue(0).feedDue("1:2", 2);
        }
        new Session("header characters in a body").feedDue("5::9:99", 1).errorDue(null, -32700).stateDue(0);
        new Session("what a longer body left").feedDue("3:[1]", 1).errorDue(null, -32600).feedDue("2:[1", 2)
            .errorDue(null, -32700);
    }

    /** "A header that goes wrong (another character ..) makes the server CLOSED." */
    private static void anotherCharacter() {
        for (char c = 1; c <= 127; c++) {
            boolean digit = c >= '0' && c <= '9';
            for (String before : new String[] {"", "1", "12", "123"}) {
                boolean good = digit ? before.length() < 3 : c == ':' && !before.isEmpty();
                wrongFrom("character " + (int) c + " behind '" + before + "'", before, String.valueOf(c), !good);
            }
        }
    }

    private static void wrongFrom(String title, String before, String then, boolean wrong) {
        Session s = new Session(title).feedDue(before, 0).stateDue(0).feedDue(then, 0).stateDue(wrong ? 4 : 0)
            .codeDue(-1);
        if (wrong) {
            s.feedDue("1:1", 0).responsesDue(0).stateDue(4);
        }
    }

    /** ".. a colon without digits .." */
    private static void colonWithoutDigits() {
        wrongFrom("a colon alone", "", ":", true);
        wrongFrom("a colon behind a digit", "5", ":", false);
        wrongFrom("a colon behind none", "\0\u0080", ":", true);
    }

    /** ".. a fourth digit .." */
    private static void fourthDigit() {
        for (char c = '0'; c <= '9'; c++) {
            wrongFrom("a third digit " + c, "01", String.valueOf(c), false);
            wrongFrom("a fourth digit " + c, "001", String.valueOf(c), true);
            wrongFrom("a fourth digit " + c + " behind zeros", "000", String.valueOf(c), true);
        }
    }

    /** ".. 0 or more than 200": each number, with as many zeros before it as there may be. */
    private static void zeroOrMoreThanTwoHundred() {
        for (int n = 0; n <= 999; n++) {
            for (String digits = String.valueOf(n); digits.length() <= 3; digits = "0" + digits) {
                wrongFrom("header " + digits, digits, ":", n == 0 || n > 200);
            }
        }
    }

    /** The document does not say when 0 or 201 goes wrong; here it is at the colon, where the number ends. */
    private static void onlyTheColonJudgesTheNumber() {
        for (String digits : new String[] {"0", "00", "000", "201", "999"}) {
            new Session("no colon yet behind " + digits).feedDue(digits, 0).stateDue(0).feedDue(":", 0).stateDue(4);
        }
    }

    private static void headersBehindAFrame() {
        new Session("a line end behind a frame").feedDue("1:1\n", 1).stateDue(4).responsesDue(1)
            .feedDue("1:1", 1).responsesDue(1);
        new Session("a blank behind a frame").feedDue("1:1 ", 1).stateDue(4);
        new Session("a colon behind a frame").feedDue("1:1:", 1).stateDue(4).responsesDue(1);
        new Session("a fourth digit in the second header").feedDue("001:1001", 1).stateDue(0).feedDue("0", 1)
            .stateDue(4);
        new Session("a wrong header within a call").feedDue("1:1x", 1).stateDue(4).responsesDue(1);
        new Session("digits of the header before are gone").feedDue("20:" + " ".repeat(19) + "1", 1).feedDue("1:1", 2)
            .stateDue(0).responsesDue(2);
    }
}
