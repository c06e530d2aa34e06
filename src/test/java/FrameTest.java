/** Promise 2: characters, headers and bodies. */
final class FrameTest {
    public static void main(String[] args) {
        lowestBitsComeFirst();
        charactersThatAreNoneArePassedOver();
        headersOfOneToThreeDigits();
        headersThatGoWrong();
        severalFramesInOneCall();
        nothingIsReadWhenClosedOrOut();
        Session.end();
    }

    private static void lowestBitsComeFirst() {
        Session s = new Session("lowest bits first");
        s.due("feed", () -> s.server().feed('2' | ':' << 8 | '1' << 16 | '2' << 24), 1);
        s.errorDue(null, -32600);
        Session t = new Session("all four in their order");
        t.due("feed", () -> t.server().feed('1' | ':' << 8 | '{' << 16 | '1' << 24), 1);
        t.due("feed", () -> t.server().feed(':' | '7' << 8 | ':' << 16 | '1' << 24), 2);
        t.responseDue(0, 3, -32700).responseDue(1, 3, -32600).responsesDue(2).stateDue(4);
    }

    private static void charactersThatAreNoneArePassedOver() {
        Session s = new Session("none in header and body");
        s.feedDue("\0\0\0\0", 0);
        s.feedDue("\u00ff\u0080\0\u00b1", 0);
        s.stateDue(0);
        s.feedDue("\u00800\0\u00ff0\0\0\u00804\u00c8\0:\0t\u00ffr\u0080u\0", 0);
        s.feedDue("\u00ff\u00ff\0e", 1);
        s.errorDue(null, -32600);
        s.due("feed(-1)", () -> s.server().feed(-1), 1);
        s.due("feed(0)", () -> s.server().feed(0), 1);
        s.due("feed(MIN)", () -> s.server().feed(Integer.MIN_VALUE), 1);
        s.stateDue(0).responsesDue(1);
        new Session("1 and 127 are characters").feedDue("1:\u0001", 1).errorDue(null, -32700)
            .feedDue("1:\u007f", 2).errorDue(null, -32700).responsesDue(2);
        new Session("127 goes wrong in a header").feedDue("\u007f", 0).stateDue(4);
        new Session("1 goes wrong in a header").feedDue("1\u0001", 0).stateDue(4);
    }

    private static void headersOfOneToThreeDigits() {
        String blanks = " ".repeat(199);
        new Session("digits").feedDue("1:1", 1).feedDue("01:1", 2).feedDue("001:1", 3).stateDue(0);
        new Session("a body of 200").feedDue("200:" + blanks, 0).responsesDue(0).feedDue("1", 1)
            .responsesDue(1).errorDue(null, -32600);
        new Session("a body of 10").feedDue("10:123456789", 0).feedDue("0", 1).errorDue(null, -32700);
        new Session("a header alone").feedDue("200:", 0).stateDue(0).codeDue(-1);
        new Session("three digits and no colon yet").feedDue("199", 0).stateDue(0).feedDue(":", 0).stateDue(0);
        new Session("colons and digits in a body").feedDue("5::9:99", 1).errorDue(null, -32700).stateDue(0);
    }

    private static void headersThatGoWrong() {
        String[] wrong = {":", "0:", "00:", "000:", "201:", "999:", "0001", "1000", "2000:", "a", "1a", " 1:1",
            "1 :1", "-1:", "\n", "12;", "1/", "+1:", "\u0001"};
        for (String header : wrong) {
            new Session("header " + header).feedDue(header, 0).stateDue(4).codeDue(-1).responsesDue(0)
                .feedDue("1:1", 0).responsesDue(0).stateDue(4);
        }
        new Session("a line end behind a frame").feedDue("1:1\n", 1).stateDue(4).responsesDue(1)
            .feedDue("1:1", 1).responsesDue(1);
    }

    private static void severalFramesInOneCall() {
        new Session("a frame ends and one begins").feedDue("1:11:11:", 2).responsesDue(2).feedDue("1", 3)
            .responsesDue(3);
        new Session("a frame, then a wrong header").feedDue("1:1:", 1).stateDue(4).responsesDue(1);
    }

    private static void nothingIsReadWhenClosedOrOut() {
        new Session("out").send("{\"method\":\"exit\"}").stateDue(3).feedDue("1:1", 1).feedDue("x", 1)
            .stateDue(3).codeDue(1).responsesDue(0);
        new Session("out within four").feedDue("17:{\"method\":\"exit\"}x", 1).stateDue(3);
        new Session("closed").feedDue("x", 0).send("{\"method\":\"exit\"}").stateDue(4).codeDue(-1);
    }
}
