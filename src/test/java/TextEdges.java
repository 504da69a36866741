/** The edges of the text: what the terms say of it, and promises 1 to 6. */
final class TextEdges {
    private static final int NO_FAULT = HeaderWays.NONE;

    private TextEdges() {
    }

    static void all() {
        length();
        clauses();
        clauseBehindTheLast();
        nodesClause();
        linkClause();
        linkThatIsThere();
        oneDigit();
        blanks();
        tokens();
        otherLetters();
        outOfBounds();
        likeNodes();
        fifteenthLink();
        tooSoon();
        inTheirOrder();
        behindThem();
        newObject();
        writeOutside();
        writeFull();
        erase();
        fault();
        faultPlace();
        tellNot();
        tell();
        linkUnknown();
        linkOutside();
    }

    private static void good(String text, int clauses) {
        Edge.fault("", text, NO_FAULT, clauses);
    }

    private static void bad(String text, int place) {
        Edge.fault("", text, place, 0);
    }

    private static void length() {
        Edge.of(0, "THE TEXT is a row of letters, 200 at most");
        String ahead = " ".repeat(192);
        Edge.run("'" + ahead + "nodes3' count(12)=198 write(32)=199 write(32)=200 write(32)!FULL fault()?-1 tell()=1 count(0)=3 count(12)=0 write(32)=1");
        Edge.run("'" + ahead + " nodes3' write(50)=200 fault()?198 tell()!NOT");
        Edge.run("'" + ahead + "  nodes' write(51)=200 write(51)!FULL fault()?-1 tell()=1 count(0)=3");
        Edge.run("'" + ahead + "   nodes' count(12)=200 write(51)!FULL fault()?200 tell()!NOT erase()=200 write(51)=1");
    }

    private static void clauses() {
        Edge.of(0, "1 to 24 CLAUSES with ; between");
        bad("", 0);
        good("nodes3", 1);
        good("nodes3;nodes4", 2);
        bad(";nodes3", 0);
        bad("nodes3;", 7);
        bad("nodes3;;nodes4", 7);
        bad("nodes3 nodes4", 7);
        good("nodes2" + ";nodes3".repeat(22), 23);
        good("nodes2" + ";nodes3".repeat(23), 24);
        bad("nodes2" + ";nodes3".repeat(24), 6 + 23 * 7);
        bad("nodes2" + ";nodes3".repeat(22) + ";", 6 + 22 * 7 + 1);
    }

    private static void clauseBehindTheLast() {
        Edge.of(0, "the ; behind a 24th CLAUSE");
        String most = "nodes2" + ";nodes3".repeat(23);
        good(most, 24);
        good(most + " ".repeat(200 - most.length()), 24);
        bad(most + ";", most.length());
        bad(most + "  ;", most.length() + 2);
        bad(most + ";nodes", most.length());
        bad(most + " 3", most.length() + 1);
        bad(most + "n", most.length());
        String less = "nodes2" + ";nodes3".repeat(22);
        bad(less + ";", less.length() + 1);
        good(less + ";link0 1 1 1", 24);
        bad(less + ";link0 1 1 1;", less.length() + 12);
    }

    private static void nodesClause() {
        Edge.of(0, "nodes: n is N, no LINKS, THE LIST and THE TRACE have nothing, PROTECT is off");
        Edge.run(Nets.RICH + "erase()=11 'nodes5' tell()=1 count(0)?5 count(1)?0 count(2)=0 count(3)=0 count(4)?0 count(5)?0 count(6)?0 "
            + "link(0, 0)!UNKNOWN segment(0, 0)!UNKNOWN brief(-1)!NOT protect(0)=0 seen(4)=0 seen(5)!UNKNOWN next(0, 1, 0)=-1 far(4, 0, 1)=-1");
        Edge.run(Nets.RICH + "erase()=11 'link0 1 1 1' tell()=1 count(0)?5 count(1)?5 count(2)=4 count(4)?3 count(5)?2 count(6)?1 seen(2)=29");
        Edge.run(Nets.line(8) + "'nodes2' tell()=1 count(0)=2 learn(1)=0 learn(2)!UNKNOWN 'nodes8' tell()=1 learn(7)=0 seen(7)=0");
        // What was behind, or had been traced, is gone with the nodes.
        Edge.run(Nets.line(3) + "fail(1) trace(0) trace(1) 'nodes3;link1 2 1 1' tell()=2 count(3)=0 count(5)=0 trace(1)=1 trace(0)!NOT trace(2)=2");
    }

    private static void linkClause() {
        Edge.of(0, "link: the LINK of U and V has COST C, DELAY D, one more, UP, SEEN by all NODES");
        Edge.run("'nodes8;link7 0 1 9' tell()=2 count(1)?1 link(0, 0)?0 link(0, 1)?7 link(0, 2)?1 link(0, 3)?9 link(0, 4)?1 link(0, 5)?0 seen(0)?1 seen(7)?1");
        Edge.run(Nets.line(3) + "fail(0) learn(1) 'link2 0 9 1' tell()=1 count(1)=3 link(2, 0)=0 link(2, 1)=2 link(2, 4)=1 seen(0)=7 seen(1)=6 seen(2)=7 count(3)=2");
    }

    private static void linkThatIsThere() {
        Edge.of(0, "or the one that is there, which stays UP or not, SEEN or not");
        Edge.run(Nets.line(3) + "fail(0) learn(1) 'link1 0 7 8' tell()=1 count(1)=2 link(0, 2)=7 link(0, 3)=8 link(0, 4)?0 link(1, 4)?1 seen(0)?3 seen(1)?2 count(3)=2");
        Edge.run(Nets.line(3) + "fail(0) learn(1) heal(0) 'link0 1 7 8' tell()=1 link(0, 4)?1 seen(0)?3 seen(1)?2 count(3)=1");
        Edge.run(Nets.line(3) + "'link1 2 7 8;link2 1 3 4' tell()=2 count(1)=2 link(1, 2)=3 link(1, 3)=4 link(1, 0)=1 link(1, 1)=2 link(0, 2)=1");
    }

    private static void oneDigit() {
        Edge.of(0, "numbers of one digit each");
        good("nodes3", 1);
        bad("nodes03", 5);
        bad("nodes33", 5);
        bad("nodes 3 3", 8);
        good("nodes3;link1 2 3 4", 2);
        bad("nodes3;link01 2 3 4", 11);
        bad("nodes3;link1 02 3 4", 13);
        bad("nodes3;link1 2 03 4", 15);
        bad("nodes3;link1 2 3 04", 17);
        bad("nodes3;link12 3 4", 11);
        bad("nodes3;link1 2 34", 15);
        bad("nodes3;link1 2 3 4 5", 19);
    }

    private static void blanks() {
        Edge.of(0, "blanks (32) may stand ahead of each TOKEN and behind the last, needed only where two rows of letters, of digits would else be one");
        good("  nodes   3  ;  link  0   1  2    3   ", 2);
        good("nodes3;link0 1 2 3", 2);
        good(" nodes3", 1);
        good("nodes3 ", 1);
        good("nodes3 ;nodes4", 2);
        good("nodes3; nodes4", 2);
        bad("nodes3;link012 3", 11);
        bad("linknodes3", 0);
        bad("no des3", 0);
        bad("nodes" + (char) 31 + "3", 5);
        bad("nodes" + (char) 33 + "3", 5);
        bad("nodes" + (char) 9 + "3", 5);
        bad("nodes3" + (char) 10, 6);
        bad("nodes3" + (char) 160, 6);
        bad("nodes3" + (char) 0, 6);
    }

    private static void tokens() {
        Edge.of(0, "A FAULT is at the first TOKEN (a row of small letters, a row of digits, any other letter) that cannot stand there");
        bad("nodesz3", 0);
        bad("nodesa3", 0);
        bad("znodes3", 0);
        bad("nodes{3", 5);
        bad("nodes`3", 5);
        bad("`nodes3", 0);
        bad("nodes3/", 6);
        bad("nodes3:", 6);
        bad("nodes/3", 5);
        bad("nodes:3", 5);
        bad("nodes93", 5);
        bad("nodes30", 5);
        bad("nodes-3", 5);
        bad("nodes 3.", 7);
        bad("nodes3nodes3", 6);
        bad("3", 0);
        bad("33nodes", 0);
        bad("nodes3;link", 11);
        bad("nodes3;linc0 1 1 1", 7);
        bad("nodes3;lin0 1 1 1", 7);
        bad("nodes3;linkk0 1 1 1", 7);
        bad("node3", 0);
        bad("nodess3", 0);
        for (String word : new String[] {"modes", "npdes", "nocdes", "nodfs", "nodet", "nodez"}) {
            bad(word + "3", 0);
        }
        for (String word : new String[] {"kink", "ljnk", "limk", "linl", "linz"}) {
            bad(word + "0 1 1 1", 0);
        }
        bad("nodes39", 5);
        bad("nodes99", 5);
        bad("nodes3;link0;1 1 1", 12);
        bad("nodes3;link0 1 1 1nodes3", 18);
        bad("nodes3;link0 1 x 1", 15);
        bad("nodes9;nodes9", 5);
    }

    private static void otherLetters() {
        Edge.of(0, "any other letter");
        bad("Nodes3", 0);
        bad("nODES3", 0);
        bad("" + (char) 225 + (char) 225, 0);
        bad("nodes" + (char) 178, 5);
        bad(";;", 0);
        bad("nodes3 ;;", 8);
        bad("nodes3" + (char) 255, 6);
        // An other letter is a TOKEN by itself, so the second of two is at fault.
        bad("nodes3;;", 7);
    }

    private static void outOfBounds() {
        Edge.of(0, "a number out of its bounds, of more digits");
        bad("nodes1", 5);
        good("nodes2", 1);
        good("nodes8", 1);
        bad("nodes9", 5);
        bad("nodes0", 5);
        for (int n = 2; n <= 8; n++) {
            String net = "nodes" + n + ";link";
            good(net + (n - 1) + " 0 1 1", 2);
            good(net + "0 " + (n - 1) + " 1 1", 2);
            bad(net + n + " 0 1 1", 11);
            bad(net + "0 " + n + " 1 1", 13);
        }
        good("link0 1 1 1", 1);
        good("link0 1 9 9", 1);
        bad("link0 1 0 9", 8);
        bad("link0 1 9 0", 10);
        bad("link2 1 1 1", 4);
        bad("link1 2 1 1", 6);
        // The letters next to the digits are none.
        bad("link0 1 : 1", 8);
        bad("link0 1 1 :", 10);
        bad("link0 1 / 1", 8);
        bad("link/ 1 1 1", 4);
        bad("link0 / 1 1", 6);
        // The bounds are those of the clauses ahead, or of the net that is there.
        good("nodes3;link2 0 1 1;nodes2;link1 0 1 1", 4);
        bad("nodes3;link2 0 1 1;nodes2;link2 0 1 1", 30);
        Edge.fault(Nets.line(5), "link4 0 1 1", NO_FAULT, 1);
        Edge.fault(Nets.line(5), "link5 0 1 1", 4, 0);
        Edge.fault(Nets.line(5), "nodes4;link4 0 1 1", 11, 0);
        Edge.fault(Nets.line(5), "nodes4;link3 0 1 1", NO_FAULT, 2);
    }

    private static void likeNodes() {
        Edge.of(0, "a V like U, or by which there would be a 15th LINK");
        bad("link0 0 1 1", 6);
        good("link0 1 1 1", 1);
        good("link1 0 1 1", 1);
        bad("link1 1 1 1", 6);
        bad("nodes8;link7 7 1 1", 13);
        good("nodes8;link7 6 1 1", 2);
        bad("link0 0", 6);
        bad("link0  0 0 0", 7);
    }

    private static void fifteenthLink() {
        Edge.of(0, "by which there would be a 15th LINK");
        Edge.fault(Nets.links(13), "link3 5 1 1", NO_FAULT, 1);
        Edge.fault(Nets.links(13), "link4 5 1 1", NO_FAULT, 1);
        Edge.fault(Nets.links(13), "link3 5 1 1;link5 4 1 1", 18, 0);
        Edge.fault(Nets.links(13), "link3 5 1 1;link5 3 2 2", NO_FAULT, 2);
        Edge.fault(Nets.links(14), "link4 5 1 1", 6, 0);
        Edge.fault(Nets.links(14), "link5 4 1 1", 6, 0);
        Edge.fault(Nets.links(14), "link5 4", 6, 0);
        Edge.fault(Nets.links(14), "link5", 5, 0);
        Edge.fault(Nets.links(14), "link0 1 9 9", NO_FAULT, 1);
        Edge.fault(Nets.links(14), "link5 3 9 9", NO_FAULT, 1);
        Edge.fault(Nets.links(14), "nodes6;link4 5 1 1", NO_FAULT, 2);
        Edge.fault(Nets.links(14), "link5 6 1 1", 6, 0);
        // All of them in one text; a text that was not done counts for nothing.
        StringBuilder text = new StringBuilder("nodes6");
        for (int u = 0; u < 5; u++) {
            for (int v = u + 1; v < 6 && u + v < 9; v++) {
                text.append(";link").append(u).append(' ').append(v).append(" 1 1");
            }
        }
        good(text.toString(), 15);
        good(text + ";link1 0 2 2", 16);
        bad(text + ";link4 5 1 1", text.length() + 7);
        good(text + ";nodes6;link4 5 1 1", 17);
        Edge.run(Nets.links(13) + "'link3 5 1 1' fault()?-1 erase()=11 'link4 5 1 1' fault()?-1 tell()=1 count(1)=14");
        Edge.run(Nets.links(14) + "'nodes6;link4 5 1 1' fault()?-1 erase()=18 'link4 5 1 1' fault()?6 tell()!NOT");
        // Links that are down are links that are there.
        Edge.fault(Nets.links(14) + "fail(0) learn(0) learn(1)", "link5 4 1 1", 6, 0);
    }

    private static void tooSoon() {
        Edge.of(0, "or at the end, if it comes too soon.");
        bad("", 0);
        bad(" ", 1);
        bad("nodes", 5);
        bad("nodes  ", 7);
        bad("nodes3;", 7);
        bad("nodes3;  ", 9);
        bad("link", 4);
        bad("link0", 5);
        bad("link0 1", 7);
        bad("link0 1 1", 9);
        bad("link0 1 1 ", 10);
        good("link0 1 1 1", 1);
    }

    private static void inTheirOrder() {
        Edge.of(0, "CLAUSES are done in their order.");
        Edge.run("'nodes8;link6 7 1 1;nodes3;link0 2 5 6;link2 0 3 4' tell()=5 count(0)=3 count(1)=1 link(0, 1)=2 link(0, 2)=3 link(0, 3)=4");
        Edge.run("'link0 1 1 1;nodes2' tell()=2 count(1)=0");
        Edge.run("'nodes2;link0 1 1 1' tell()=2 count(1)=1");
    }

    private static void behindThem() {
        Edge.of(0, "Behind them nothing can be undone, all COUNTS are 0, no LETTER was SENT.");
        Edge.run(Nets.RICH + "erase()=11 link(0, 5)=2 link(4, 5)=1 count(11)=3 count(7)=2 'link0 1 1 1' tell()=1 count(11)?0 undo()!NOT link(0, 5)?0 link(4, 5)?0 "
            + "count(7)?0 count(8)?0 count(9)?0 count(10)?0 count(13)?0 way(-1)?NONE way(0)?NONE link(1, 4)=0 seen(2)=29 link(3, 2)=2");
        // Refused, and they all stay.
        Edge.run(Nets.RICH + "tell()!NOT undo()=2 link(0, 5)=2 count(7)=2 way(0)=0");
        Edge.run(Nets.FILLED + "erase()=200 'nodes8' tell()=1 undo()!NOT fail(0)!UNKNOWN learn(7)=0 undo()=0 undo()!NOT");
    }

    // ---- the promises

    private static void newObject() {
        Edge.of(1, "Two NODES, no LINKS.");
        Edge.run("count(0)?2 count(1)?0 seen(1)?0 seen(2)!UNKNOWN link(0, 0)!UNKNOWN count(2)=0 count(3)=0 count(4)=0 count(5)=0 count(6)=0 count(7)=0 "
            + "count(8)=0 count(9)=0 count(10)=0 count(11)=0 count(12)=0 count(13)=0 undo()!NOT tell()!NOT way(-1)?NONE brief(-1)!NOT order(-1)?0");
    }

    private static void writeOutside() {
        Edge.of(2, "A letter (its number, 0 .. 255) more of THE TEXT: how many it has. OUTSIDE");
        Edge.runs("write(@)!OUTSIDE write(48)=1", "-1", "256", "304", "-208", "LEAST", "MOST");
        Edge.runs(Nets.RICH + "write(@)!OUTSIDE", "-1", "256");
        Edge.run("write(0)=1 write(1)=2 write(254)=3 write(255)=4 fault()?0");
        // 256 more or less is not the same letter.
        Edge.run("'nodes' write(307)!OUTSIDE write(-205)!OUTSIDE write(51)=6 fault()?-1");
    }

    private static void writeFull() {
        Edge.of(2, "OUTSIDE; FULL.");
        Edge.run("write(32) ".repeat(198) + "write(32)=199 write(32)=200 write(32)!FULL write(110)!FULL write(256)!OUTSIDE write(-1)!OUTSIDE erase()=200 write(110)=1");
    }

    private static void erase() {
        Edge.of(3, "THE TEXT is empty: how many letters it had.");
        Edge.run("erase()=0 write(110)=1 erase()=1 count(12)?0 fault()?0 erase()=0");
        Edge.run("write(32) ".repeat(200) + "erase()=200 erase()=0 'nodes3' fault()?-1 tell()=1 erase()=0");
        // Nothing is left of what was written ahead of it.
        Edge.run("'nodes3;link0 1 1 1' erase()=18 'nodes' fault()?5 erase()=5 'nodes3' fault()?-1 tell()=1 count(1)=0 undo()!NOT");
        Edge.run(Nets.RICH + "erase()=11 count(7)=2 count(11)=3 count(1)=5 count(4)=3 undo()=2");
    }

    private static void fault() {
        Edge.of(4, "(the letter with which the TOKEN begins, or the length); NONE.");
        bad("", 0);
        good("nodes3", 1);
        bad("   xyz", 3);
        bad("nodes   33", 8);
        bad("nodes3   ;   link  ", 19);
    }

    private static void faultPlace() {
        Edge.of(4, "The place of the FAULT");
        Edge.run("fault()?0 write(110)=1 fault()?0 write(111)=2 fault()?0 erase()=2 'nodes' fault()?5 write(32)=6 fault()?6 write(57)=7 fault()?6 erase()=7 "
            + "'nodes 3' fault()?-1 write(51)=8 fault()?6");
        Edge.run(Nets.RICH + "fault()?8 'k0 1 1 1' fault()?-1 write(49)=20 fault()?18");
    }

    private static void tellNot() {
        Edge.of(5, "NOT: it has a FAULT.");
        Edge.run("tell()!NOT write(32)=1 tell()!NOT erase()=1 'nodes3;nodes9' tell()!NOT count(0)=2 count(12)=13 erase()=13 'nodes3;nodes8' tell()=2 count(0)=8");
        Edge.run(Nets.RICH + "tell()!NOT count(0)=5 count(12)=11");
        Edge.run(Nets.FILLED + "tell()!NOT count(12)=200");
    }

    private static void tell() {
        Edge.of(5, "THE TEXT's CLAUSES are done, and it is empty then: how many there were.");
        Edge.run("'nodes3' tell()=1 count(12)=0 tell()!NOT fault()?0 write(32)=1");
        Edge.run("'nodes2" + ";nodes3".repeat(22) + "' tell()=23 count(0)=3 count(12)=0");
        Edge.run("'nodes2" + ";nodes3".repeat(23) + "' tell()=24 count(0)=3 count(12)=0 'nodes4' tell()=1 count(0)=4");
        Edge.run("'nodes2" + ";nodes3".repeat(24) + "' tell()!NOT count(0)=2");
        Edge.run("'nodes8" + ";link0 1 1 1;link1 2 1 1".repeat(8) + "' count(12)=198 tell()=17 count(1)=2");
    }

    private static void linkUnknown() {
        Edge.of(6, "COUNT (5). UNKNOWN");
        Edge.runs("link(@, 0)!UNKNOWN", "-1", "0", "1", "LEAST", "MOST");
        Edge.runs(Nets.line(3) + "link(@, 0)!UNKNOWN", "-1", "2", "3", "14", "32", "33", "LEAST", "MOST");
        Edge.run(Nets.line(3) + "link(0, 1)?1 link(1, 0)?1 link(1, 1)?2 link(1, 5)?0 push(0, 2) send(1)=2 link(1, 5)?1 link(2, 5)!UNKNOWN");
        Edge.runs(Nets.RICH + "link(@, 5)!UNKNOWN", "-1", "5");
    }

    private static void linkOutside() {
        Edge.of(6, "UNKNOWN; OUTSIDE.");
        Edge.runs(Nets.line(3) + "link(@)!OUTSIDE", "0, -1", "0, 6", "1, -1", "1, 6", "1, LEAST", "1, MOST");
        Edge.runs(Nets.RICH + "link(4, @)!OUTSIDE", "-1", "6", "7");
        Edge.runs(Nets.line(3) + "link(@)!UNKNOWN", "2, -1", "-1, 6", "2, 0", "-1, 5");
        Edge.run("'nodes3;link2 0 3 4' tell()=2 link(0, 0)?0 link(0, 1)?2 link(0, 2)?3 link(0, 3)?4 link(0, 4)?1 link(0, 5)?0 link(0, 6)!OUTSIDE link(0, -1)!OUTSIDE "
            + "fail(0) link(0, 4)?0 heal(0) link(0, 4)?1");
    }
}
