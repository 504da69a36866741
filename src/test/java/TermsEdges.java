/** The edges that the terms name, ahead of the promises: nodes, links, ways, lists, rings, orders. */
final class TermsEdges {
    private static final String[] OF_NODE = {
        "learn(@)", "seen(@)", "next(@, 0, 0)", "next(0, @, 1)", "far(@, 0, 0)", "far(0, @, 1)", "space(@, 0, 0)",
        "rings(@)", "safe(@)", "push(0, @)", "push(1, @)", "repair(@, 0, 1, 0)", "repair(1, 0, @, 0)", "trace(@)",
        "send(@)"
    };
    private static final String[] OF_LINK = {
        "link(@, 0)", "fail(@)", "heal(@)", "tune(@, 1, 1)", "space(0, @, 0)", "push(2, @)", "repair(0, @, 1, 0)"
    };

    private TermsEdges() {
    }

    static void all() {
        calls();
        nodes();
        nodesAtFirst();
        links();
        linksAtFirst();
        linksAsTold();
        linksBetween();
        prices();
        upAndDown();
        behind();
        bits();
        far();
        next();
        walk();
        list();
        segmentLeads();
        shortListOfOneNode();
        shortListFewest();
        shortListOfLikeOnes();
        shortListNone();
        repairToItself();
        repairNone();
        ringsLeadIn();
        ringsSizes();
        orderNone();
        orderLowest();
        orderBehindManyDeadEnds();
        orderOfNobody();
        trace();
        firstThatFits();
    }

    private static void calls() {
        Edge.of(0, "An object is used for at most 512 calls after it has been made");
        Edge.run("learn(0)=0 ".repeat(510) + "count(11)=8 undo()=7");
        Edge.run("tune(0, 1, 1)=UNKNOWN ".repeat(510) + "count(11)=0 undo()=NOT");
        String sent = Nets.line(2) + "push(0, 1) ";
        int ahead = 18 + 2;
        Edge.run(sent + "send(0)=1 ".repeat(512 - ahead - 2) + "link(0, 5)=" + (510 - ahead) + " count(7)=" + (510 - ahead));
    }

    private static void nodes() {
        Edge.of(0, "NODES are 0 to n less 1 (n 2 .. 8; 2 at first).");
        for (int n = 2; n <= 8; n++) {
            String net = Nets.cycle(n);
            Edge.run(net + "count(0)?" + n);
            for (String call : OF_NODE) {
                Edge.runs(net + call + "=UNKNOWN", "-1", "" + n, "8", "32", "LEAST", "MOST");
            }
            for (String call : OF_NODE) {
                boolean isOther = call.startsWith("repair");
                if (!isOther) {
                    Edge.runs(net + call, "0", "1", "" + (n - 1));
                } else if (n > 2) {
                    Edge.runs(net + call, call.contains("(@") ? "0" : "2", "" + (n - 1));
                }
            }
        }
        for (String call : OF_NODE) {
            Edge.runs(Nets.RICH + call + "!UNKNOWN", "-1", "5");
            Edge.runs(Nets.FILLED + call + "!UNKNOWN", "-1", "8");
        }
        Edge.run("'nodes 1' fault()?6 tell()!NOT count(0)=2");
        Edge.run("'nodes 9' fault()?6 tell()!NOT count(0)=2");
    }

    private static void nodesAtFirst() {
        Edge.of(0, "2 at first");
        for (String call : OF_NODE) {
            Edge.runs(call + "!UNKNOWN", "-1", "2", "LEAST", "MOST");
        }
        for (String call : new String[] {"seen(@)?0", "learn(@)=0", "rings(@)?0", "safe(@)?1", "send(@)=@", "trace(@)=1"}) {
            Edge.runs(call, "0", "1");
        }
        Edge.run("next(0, 1, 0)?NONE next(1, 0, 1)?NONE far(0, 1, 0)?NONE far(1, 1, 1)?0 push(0, 1)=1 push(1, 0)=2");
    }

    private static void links() {
        Edge.of(0, "LINKS 0 on, 14 at most");
        for (int many : new int[] {1, 2, 13, 14}) {
            String net = Nets.links(many);
            int last = many - 1;
            Edge.run(net + "count(1)?" + many + " count(2)?" + many + " seen(0)?" + ((1 << many) - 1));
            for (String call : OF_LINK) {
                Edge.runs(net + call + "!UNKNOWN", "-1", "" + many, "LEAST", "MOST");
                Edge.runs(net + call + "=UNKNOWN", "14", "32", "" + (32 + last));
            }
            Edge.runs(net + "link(@, 0) fail(@) heal(@) tune(@, 1, 1) space(0, @, 0) push(2, @)", "0", "" + last);
            Edge.runs(net + "repair(0, @, 1, 0)" + (many == 1 ? "!NOT" : ""), "" + last);
        }
        Edge.run(Nets.links(13) + "'link3 5 2 3' tell()=1 count(1)=14 link(13, 0)=3 link(13, 2)=2");
        Edge.run(Nets.links(14) + "'link4 5 2 3' fault()?6 tell()!NOT count(1)=14 link(14, 0)!UNKNOWN");
    }

    private static void linksAtFirst() {
        Edge.of(0, "(none at first), numbered as they were told");
        Edge.run("count(1)?0 count(2)?0 seen(0)?0 seen(1)?0");
        for (String call : OF_LINK) {
            Edge.runs(call + "!UNKNOWN", "-1", "0", "LEAST", "MOST");
        }
    }

    private static void linksAsTold() {
        Edge.of(0, "numbered as they were told");
        Edge.run("'nodes3;link2 1 1 1;link1 0 2 2' tell()=3 link(0, 0)?1 link(0, 1)?2 link(1, 0)?0 link(1, 1)?1");
        Edge.run(Nets.links(14) + "link(0, 0)=0 link(0, 1)=1 link(12, 0)=3 link(12, 1)=4 link(13, 0)=3 link(13, 1)=5");
    }

    private static void linksBetween() {
        Edge.of(0, "each between two unlike NODES, one at most");
        Edge.run("'nodes3;link0 1 1 2;link1 0 3 4;link2 1 5 6' tell()=4 count(1)=2 link(0, 2)=3 link(0, 3)=4 link(1, 2)=5");
        Edge.run("'link0 1 1 1' tell()=1 'link1 0 2 2' tell()=1 count(1)=1 link(0, 2)=2 link(1, 2)!UNKNOWN");
        Edge.run("'link0 0 1 1' fault()?6 tell()!NOT count(1)=0");
        Edge.run("'link1 1 1 1' fault()?6 tell()!NOT count(1)=0");
    }

    private static void prices() {
        Edge.of(0, "a LINK has a COST and a DELAY (1 .. 9 each)");
        Edge.run("'link0 1 1 9' tell()=1 link(0, 2)?1 link(0, 3)?9 tune(0, 9, 1)=1 link(0, 2)?9 link(0, 3)?1");
        Edge.run("'link0 1 9 1' tell()=1 link(0, 2)?9 link(0, 3)?1 tune(0, 1, 9)=9 link(0, 2)?1 link(0, 3)?9");
        Edge.run("'link0 1 0 1' fault()?8 tell()!NOT");
        Edge.run("'link0 1 1 0' fault()?10 tell()!NOT");
        Edge.run("'link0 1 10 1' fault()?8 tell()!NOT");
        Edge.run("'link0 1 1 10' fault()?10 tell()!NOT");
        Edge.runs(Nets.line(2) + "tune(0, @)!OUTSIDE", "0, 1", "10, 1", "1, 0", "1, 10");
    }

    private static void upAndDown() {
        Edge.of(0, "is UP or DOWN");
        Edge.run(Nets.line(2) + "link(0, 4)?1 heal(0)!NOT fail(0)=0 link(0, 4)?0 fail(0)!NOT heal(0)=1 link(0, 4)?1");
    }

    private static void behind() {
        Edge.of(0, "it is BEHIND, if these are not just the LINKS that are UP.");
        Edge.run(Nets.ROUND + "count(3)?0 fail(0) count(3)?5 learn(0) count(3)?4 learn(1) learn(2) learn(3) count(3)?1 "
            + "learn(4) count(3)?0 heal(0) count(3)?5 learn(4) count(3)?4 fail(0) count(3)?1 learn(4) count(3)?0");
        Edge.run(Nets.ROUND + "fail(3) count(3)=5 heal(3) count(3)=0 fail(3) undo() count(3)=0");
        Edge.run(Nets.line(2) + "fail(0)=0 learn(1)=1 seen(1)?0 count(3)?1 learn(0)=1 count(3)?0");
        Edge.run(Nets.links(14) + "fail(13) learn(0) heal(13) count(3)?1 learn(0)=1 count(3)?0");
        Edge.run(Nets.ROUND + "fail(1) learn(0) heal(1) fail(2) count(3)?5 seen(0)?29 learn(0)=2 seen(0)?27 count(3)?4");
        Edge.run(Nets.line(8) + "fail(6) count(3)?8");
    }

    private static void bits() {
        Edge.of(0, "Sets of NODES, of LINKS are told as bits.");
        Edge.run(Nets.links(14) + "seen(0)=16383 fail(13) learn(5) seen(5)=8191 fail(0) learn(5) seen(5)=8190");
        Edge.run(Nets.line(8) + "space(7, 0, 0)=254 space(0, 6, 0)=127 space(7, 6, 0)=128 space(0, 0, 1)=1");
    }

    private static void far() {
        Edge.of(0, "(0 of a NODE and itself; there may be none)");
        Edge.run("far(0, 0, 0)?0 far(1, 1, 1)?0 far(0, 1, 0)?NONE");
        Edge.run(Nets.line(2) + "far(0, 1, 0)?1 tune(0, 9, 8) far(0, 1, 0)?9 far(1, 0, 1)?8 fail(0) learn(1) far(1, 0, 1)?NONE "
            + "far(1, 1, 1)?0 far(0, 1, 1)?8");
        String tuned = Nets.line(8);
        for (int link = 0; link < 7; link++) {
            tuned += "tune(" + link + ", 9, 9) ";
        }
        Edge.run(tuned + "far(0, 7, 0)?63 far(7, 0, 1)?63 far(0, 6, 0)?54 far(1, 0, 1)?9 next(7, 0, 0)?6");
        Edge.run(Nets.cycle(8) + "tune(7, 8, 6) far(0, 7, 0)?7 far(0, 7, 1)?6 far(7, 0, 0)?7 far(7, 0, 1)?6 "
            + "tune(7, 7, 7) far(0, 7, 0)?7 far(0, 7, 1)?7");
    }

    private static void next() {
        Edge.of(0, "are FAR from u to w, the lowest; there may be none.");
        Edge.run(Nets.links(14) + "next(4, 5, 0)?0 fail(3) learn(4) next(4, 5, 0)?1 fail(7) learn(4) next(4, 5, 1)?2 "
            + "fail(10) learn(4) next(4, 5, 0)?3 fail(12) learn(4) next(4, 5, 0)?NONE next(4, 0, 1)?NONE next(5, 4, 0)?0");
        Edge.run(Nets.cycle(8) + "tune(7, 8, 1) next(0, 7, 0)?1 next(7, 0, 0)?6 tune(7, 7, 1) next(0, 7, 0)?1 next(7, 0, 0)?0 "
            + "tune(7, 6, 1) next(0, 7, 0)?7 next(7, 0, 0)?0");
        Edge.run(Nets.cycle(4) + "next(0, 2, 0)?1 next(2, 0, 0)?1 next(1, 3, 1)?0 next(3, 1, 1)?0 tune(0, 2, 1) next(0, 2, 0)?3 "
            + "next(2, 0, 0)?3 next(0, 2, 1)?1 next(0, 1, 0)?1");
    }

    private static void walk() {
        Edge.of(0, "WALK from u to w by these: from u on to NEXT to w, and so on, to w.");
        Edge.run(Nets.cycle(8) + "tune(7, 8, 8) push(0, 7) send(0)=7 " + Nets.way(0, 1, 2, 3, 4, 5, 6, 7)
            + "tune(7, 6, 8) send(0)=7 " + Nets.way(0, 7));
        Edge.run(Nets.cycle(8) + "tune(7, 7, 7) push(0, 0) send(7)=0 " + Nets.way(7, 0) + Nets.list(7) + "send(0)=7 "
            + Nets.way(0, 1, 2, 3, 4, 5, 6, 7));
    }

    private static void list() {
        Edge.of(0, "A LIST has 8 at most. THE LIST (empty at first).");
        Edge.run("count(4)?0 clear()=0 segment(0, 0)!UNKNOWN");
        Edge.run(Nets.line(2) + "push(0, 1) ".repeat(6) + "push(1, 0)=7 push(2, 0)=8 count(4)?8 segment(7, 0)=2 push(0, 1)!FULL "
            + "push(1, 0)!FULL push(2, 0)!FULL count(4)=8 clear()=8 push(2, 0)=1");
    }

    private static void segmentLeads() {
        Edge.of(0, "KIND 2: over its LINK, if that is of the set and the NODE an end of it, to the other end.");
        // By COST and by DELAY the way from 0 to 4 goes round, so that only a segment over link 4 leads along it.
        String over = Nets.ROUND + "tune(4, 9, 9) tune(0, 1, 1) tune(1, 1, 1) tune(2, 1, 1) tune(3, 1, 1) " + Nets.trace(0, 4);
        Edge.run(over + Nets.row("brief(", 204));
        Edge.run(over + "fail(4) " + Nets.row("brief(", 204) + "learn(0) brief(-1)!NOT heal(4) brief(-1)!NOT learn(0) brief(0)?204");
        Edge.run(over + "fail(4) learn(4) brief(0)?204 " + Nets.trace(4, 0) + "brief(0)!NOT learn(0) brief(0)!NOT");
        Edge.run(Nets.line(3) + "push(2, 1) send(0)=-13 send(1)=2 send(2)=1");
    }

    private static void shortListOfOneNode() {
        Edge.of(0, "(of a way of one NODE: no SEGMENTS)");
        Edge.run("brief(-1)!NOT trace(1)=1 " + Nets.row("brief(") + "adopt()=0");
        Edge.run(Nets.RICH + Nets.trace(2) + Nets.row("brief(") + "adopt()=0 count(4)=0");
        Edge.run(Nets.line(2) + Nets.trace(1, 0) + Nets.row("brief(", 0));
    }

    private static void shortListFewest() {
        Edge.of(0, "the one with the fewest");
        Edge.run(Nets.line(8) + Nets.trace(0, 1, 2, 3, 4, 5, 6, 7) + Nets.row("brief(", 7));
        Edge.run(Nets.line(8) + Nets.trace(7, 6, 5, 4, 3, 2, 1, 0) + Nets.row("brief(", 0));
        // Over 0 it is cheaper from any node to any other, so the way goes over link by link.
        String hub = "'nodes8;link0 1 1 1;link1 2 9 9;link2 3 9 9;link3 4 9 9;link4 5 9 9;link5 6 9 9;link6 7 9 9;"
            + "link0 2 1 1;link0 3 1 1;link0 4 1 1;link0 5 1 1;link0 6 1 1;link0 7 1 1' tell()=14 ";
        Edge.run(hub + Nets.trace(0, 1, 2, 3, 4, 5, 6, 7) + Nets.row("brief(", 1, 201, 202, 203, 204, 205, 206) + "adopt()=7 send(0)=7 "
            + Nets.way(0, 1, 2, 3, 4, 5, 6, 7));
        // Round the whole cycle but one link: the half of it by one segment, the other half by one more.
        Edge.run(Nets.cycle(8) + Nets.trace(0, 1, 2, 3, 4, 5, 6, 7) + Nets.row("brief(", 4, 7));
    }

    private static void shortListOfLikeOnes() {
        Edge.of(0, "of like ones the one whose first SEGMENT LEADS furthest, of like ones that of the lower KIND, then by its second one likewise");
        // To 1 and on to 3, or to 2 and on to 3; the lower NODE leads less far.
        String four = "'nodes 4;link 0 1 1 1;link 1 2 1 1;link 2 3 1 1;link 0 3 2 2' tell()=5 ";
        Edge.run(four + Nets.trace(0, 1, 2, 3) + Nets.row("brief(", 2, 3));
        Edge.run(four + Nets.trace(3, 2, 1, 0) + Nets.row("brief(", 1, 0));
        // By COST alone, by DELAY alone, by both, over the link alone.
        Edge.run(Nets.ROUND + Nets.trace(0, 1) + Nets.row("brief(", 1) + Nets.trace(0, 4) + Nets.row("brief(", 104)
            + "tune(4, 1, 1) " + Nets.row("brief(", 4) + "tune(0, 9, 9) tune(1, 9, 9) " + Nets.trace(1, 0) + Nets.row("brief(", 0)
            + "tune(4, 9, 9) tune(0, 1, 1) tune(1, 1, 1) tune(2, 1, 1) tune(3, 1, 1) " + Nets.trace(0, 4)
            + Nets.row("brief(", 204));
        // By DELAY the first one leads further than by COST.
        Edge.run(Nets.ROUND + Nets.trace(1, 0, 4) + Nets.row("brief(", 104));
        Edge.run(Nets.ROUND + Nets.trace(1, 0, 4, 3, 2) + Nets.row("brief(", 104, 2));
    }

    private static void shortListNone() {
        Edge.of(0, "there may be none (of a way of one NODE: no SEGMENTS)");
        Edge.run(Nets.line(3) + "fail(1) learn(0) " + Nets.trace(0, 1, 2) + "brief(-1)!NOT brief(0)!NOT adopt()!NOT heal(1) learn(0) "
            + Nets.row("brief(", 2));
        Edge.run(Nets.line(3) + "fail(1) learn(1) learn(2) " + Nets.trace(0, 1, 2) + Nets.row("brief(", 2));
        Edge.run(Nets.line(3) + "fail(0) learn(0) " + Nets.trace(0, 1) + "brief(-1)!NOT " + Nets.trace(1, 0) + Nets.row("brief(", 0));
    }

    private static void repairToItself() {
        Edge.of(0, "REPAIR of a NODE u, a LINK and a NODE w (not u)");
        Edge.runs(Nets.ROUND + "repair(@, -1)!UNKNOWN", "0, 1, 0", "4, 1, 4", "2, 0, 2");
        Edge.run(Nets.ROUND + "repair(0, 1, 1, -1)?1 repair(0, 1, 4, -1)?1 repair(1, 1, 0, -1)?1");
    }

    private static void repairNone() {
        Edge.of(0, "none, if there is no such WALK, or no such LIST");
        Edge.runs(Nets.line(2) + "repair(0, 0, 1, @)!NOT", "-1", "0", "1", "MOST");
        Edge.run(Nets.ROUND + Nets.row("repair(1, 1, 2, ", 0, 204, 2) + "fail(0) " + Nets.row("repair(1, 1, 2, ", 0, 204, 2)
            + "learn(1) repair(1, 1, 2, -1)!NOT repair(1, 1, 2, 0)!NOT " + Nets.row("repair(1, 0, 2, ", 2)
            + "heal(0) repair(1, 1, 2, -1)!NOT learn(1) repair(1, 1, 2, -1)?3");
        Edge.run(Nets.TRIANGLE + Nets.row("repair(0, 0, 1, ", 2, 1) + "fail(1) learn(0) repair(0, 0, 1, -1)!NOT " + Nets.row("repair(0, 1, 2, ", 2));
    }

    private static void ringsLeadIn() {
        Edge.of(0, "a NODE is met again ahead of w (those that lead into a round, too)");
        Edge.run("'nodes6;link0 1 1 9;link1 2 1 9;link2 3 1 9;link3 4 1 9;link0 4 9 1;link0 5 1 1' tell()=7 fail(1) rings(2)?0 "
            + "learn(1) rings(2)?35 rings(0)?0 rings(1)?0 rings(5)?0 learn(0) rings(2)?0");
        // Who comes to a NODE without NEXT, or to w itself, is of no RINGS.
        Edge.run(Nets.line(4) + "fail(0) learn(1) rings(0)?0 rings(3)?0 learn(2) learn(3) rings(0)?0");
    }

    private static void ringsSizes() {
        Edge.of(0, "RINGS of w: NODES from which, each going to NEXT to w by COST and by what it has SEEN itself");
        Edge.run(Nets.TRIANGLE + "fail(1) learn(0) heal(1) rings(2)?0 fail(2) learn(1) rings(2)?3 heal(2) rings(2)?3 rings(0)?0 rings(1)?0 "
            + "learn(0) rings(2)?0 undo()=6 rings(2)?3 learn(1) rings(2)?0");
        Edge.run(Nets.ROUND_OF_SEVEN + "rings(7)?127 count(3)?7 learn(0) rings(7)?0 push(0, 7) send(1)=7 "
            + Nets.way(1, 2, 3, 4, 5, 6, 0, 7));
        Edge.run(Nets.line(8) + "rings(0)?0 rings(7)?0");
        // By COST 0, which is not BEHIND, goes by 1, by DELAY by 2.
        String both = "'nodes4;link0 1 1 9;link1 3 1 9;link0 2 9 1;link2 3 9 1' tell()=5 fail(1) learn(1) heal(1) ";
        Edge.run(both + "rings(3)?3 safe(0)?0 safe(1)?1 order(-1)?1 tune(0, 9, 1) tune(1, 9, 1) tune(2, 1, 9) tune(3, 1, 9) rings(3)?0 safe(0)?1 order(0)?1");
        // By DELAY they would not go round.
        Edge.run(Nets.ROUND + "fail(1) learn(1) rings(3)?3 next(0, 3, 0)?1 next(1, 3, 0)?0 next(0, 3, 1)?4");
    }

    private static void orderNone() {
        Edge.of(0, "so that, when they learn so, behind each of them there are no RINGS of any NODE");
        Edge.run(Nets.ROUND + "fail(1) learn(1) " + Nets.row("order(", 0, 4, 3, 2) + "learn(2) order(-1)!NOT order(0)!NOT learn(0) order(-1)!NOT "
            + "learn(4) " + Nets.row("order(", 3) + "learn(3) " + Nets.row("order("));
        Edge.run(Nets.ROUND + "fail(1) " + Nets.row("order(", 0, 1, 4, 3, 2));
    }

    private static void orderLowest() {
        Edge.of(0, "of several the one that has the lower NODE at the first place at which they differ; there may be none");
        Edge.run(Nets.line(8) + "fail(6) " + Nets.row("order(", 0, 1, 2, 3, 4, 5, 6, 7));
        Edge.run(Nets.line(8) + "fail(6) learn(0) learn(7) " + Nets.row("order(", 1, 2, 3, 4, 5, 6));
        // 0 could learn first, and 3 then, but behind them neither 1 nor 2 could.
        Edge.run("'nodes4;link0 1 7 1;link1 2 5 1;link1 3 6 1;link2 3 6 1;link0 3 1 1;link0 2 1 1' tell()=7 fail(5) fail(2) fail(4) "
            + "safe(0)?1 " + Nets.row("order(", 1, 2, 0, 3) + "learn(0) learn(3) order(-1)!NOT");
    }

    // Most sets of nodes that could learn first lead nowhere, so all of them have to be gone through.
    private static void orderBehindManyDeadEnds() {
        Edge.of(0, "of several the one that has the lower NODE at the first place at which they differ");
        Edge.run("'nodes8;link3 7 6 1;link6 7 4 1;link4 6 9 1;link1 2 6 1;link1 4 4 1;link1 5 9 1;link1 6 1 1;link0 3 9 1;link0 2 7 1;"
            + "link0 7 9 1;link2 3 3 1;link0 5 1 1;link1 3 5 1;link0 4 4 1' tell()=15 "
            + "fail(1) fail(2) fail(6) fail(7) fail(8) fail(9) fail(10) fail(12) fail(13) learn(0) "
            + "fail(5) heal(6) heal(8) heal(9) heal(10) heal(12) learn(1) "
            + "heal(1) fail(3) fail(6) heal(7) fail(8) fail(9) fail(11) fail(12) learn(2) "
            + "fail(0) fail(1) heal(2) fail(4) heal(11) learn(3) "
            + "heal(3) heal(4) fail(7) heal(8) heal(9) fail(10) fail(11) heal(12) learn(4) "
            + "heal(0) fail(3) heal(5) heal(7) fail(8) heal(10) fail(12) heal(13) learn(5) "
            + "fail(0) fail(4) fail(5) heal(6) fail(7) heal(8) heal(12) fail(13) learn(6) "
            + "heal(1) fail(6) fail(8) fail(10) heal(11) fail(12) learn(7) "
            + "heal(0) heal(5) heal(8) fail(9) fail(11) heal(12) heal(13) safe(0)?1 safe(1)?1 safe(2)?1 "
            + Nets.row("order(", 3, 4, 5, 6, 7, 0, 1, 2) + "learn(0) order(-1)!NOT undo()=7 order(0)=3 learn(3) order(0)=4");
    }

    private static void orderOfNobody() {
        Edge.of(0, "(no NODE is BEHIND: an ORDER of none, whatever RINGS there are)");
        Edge.run(Nets.row("order("));
        Edge.run(Nets.ROUND + Nets.row("order(") + "fail(4) learn(0) learn(1) learn(2) learn(3) " + Nets.row("order(", 4) + "learn(4) " + Nets.row("order("));
    }

    private static void trace() {
        Edge.of(0, "THE TRACE: a way (no NODE at first, 8 at most).");
        Edge.run("count(5)?0 untrace()=0 brief(-1)!NOT");
        Edge.run(Nets.line(8) + Nets.trace(0, 1, 2, 3, 4, 5, 6) + "count(5)?7 trace(7)=8 count(5)?8 trace(7)!NOT trace(0)!NOT trace(8)!UNKNOWN "
            + "count(5)=8 untrace()=8 trace(7)=1");
    }

    private static void firstThatFits() {
        Edge.of(0, "Refused, and nothing changes: UNKNOWN -2 (no such NODE, LINK, place), OUTSIDE -3 (another number is not as told), "
            + "NOT -4 (not now: as told), FULL -5: the first of these that fits.");
        String[] refused = {
            "link(-1, -1)!UNKNOWN", "link(0, -1)!OUTSIDE", "fail(-1)!UNKNOWN", "heal(-1)!UNKNOWN", "tune(-1, 0, 0)!UNKNOWN",
            "tune(0, 0, 0)!OUTSIDE", "learn(-1)!UNKNOWN", "next(-1, 0, 2)!UNKNOWN", "next(0, 0, 2)!OUTSIDE",
            "far(0, -1, 2)!UNKNOWN", "far(0, 0, 2)!OUTSIDE", "space(-1, 0, 2)!UNKNOWN", "space(0, -1, 2)!UNKNOWN",
            "space(0, 0, 2)!OUTSIDE", "order(-2)!OUTSIDE", "segment(-1, 2)!UNKNOWN", "segment(0, 2)!OUTSIDE",
            "repair(0, 0, 0, -2)!UNKNOWN", "repair(0, -1, 1, -2)!UNKNOWN", "repair(0, 0, 1, -2)!OUTSIDE", "trace(-1)!UNKNOWN",
            "brief(-2)!OUTSIDE", "way(-2)!OUTSIDE", "push(3, -1)!OUTSIDE", "push(-1, -1)!OUTSIDE", "push(2, -1)!UNKNOWN",
            "write(256)!OUTSIDE", "tell()!NOT"
        };
        for (String call : refused) {
            Edge.run(Nets.RICH + call);
            Edge.run(Nets.FILLED + call);
        }
        // FULL comes behind all others, NOT behind UNKNOWN and OUTSIDE.
        Edge.runs(Nets.FILLED + "@", "push(0, 0)!FULL", "push(0, 8)!UNKNOWN", "push(3, 0)!OUTSIDE", "write(32)!FULL", "write(-1)!OUTSIDE",
            "trace(0)!NOT", "trace(8)!UNKNOWN", "fail(1)!NOT", "fail(7)!UNKNOWN", "heal(0)!NOT", "heal(7)!UNKNOWN");
        String without = Nets.ROUND + "fail(1) learn(1) learn(2) ";
        Edge.runs(without + "@", "order(-2)!OUTSIDE", "order(-1)!NOT", "order(0)!NOT", "brief(-2)!OUTSIDE", "brief(-1)!NOT", "way(-2)!OUTSIDE");
        Edge.runs(Nets.line(2) + "repair(0, 0, @", "1, -2)!OUTSIDE", "1, -1)!NOT", "0, -1)!UNKNOWN", "2, -2)!UNKNOWN");
    }
}
