/** The edges of lists: promises 19 to 26. */
final class ListEdges {
    private ListEdges() {
    }

    static void all() {
        pushOutside();
        pushUnknown();
        pushFull();
        clear();
        segment();
        segmentOutside();
        repairUnknown();
        repairPlaces();
        repairNot();
        traceUnknown();
        traceNot();
        traceFull();
        untrace();
        briefPlaces();
        briefNot();
        adopt();
        adoptNot();
    }

    private static void pushOutside() {
        Edge.of(19, "OUTSIDE: KIND (0 .. 2), ahead of all");
        Edge.runs("push(@)!OUTSIDE", "-1, 0", "3, 0", "LEAST, 0", "MOST, 0", "3, 2", "-1, -1", "3, MOST");
        Edge.runs(Nets.RICH + "push(@)!OUTSIDE", "-1, 0", "3, 0", "3, 5");
        Edge.runs(Nets.FILLED + "push(@)!OUTSIDE", "-1, 0", "3, 0", "3, 8");
        Edge.run(Nets.line(2) + "push(0, 0)=1 push(1, 0)=2 push(2, 0)=3 push(3, 0)!OUTSIDE push(-1, 0)!OUTSIDE segment(0, 0)=0 segment(1, 0)=1 segment(2, 0)=2");
    }

    private static void pushUnknown() {
        Edge.of(19, "UNKNOWN: no such NODE, LINK");
        Edge.runs("push(@)!UNKNOWN", "0, -1", "0, 2", "1, -1", "1, 2", "2, -1", "2, 0", "2, 1", "0, LEAST", "1, MOST", "2, MOST");
        Edge.runs(Nets.RICH + "push(@)!UNKNOWN", "0, -1", "0, 5", "1, 5", "2, 5", "2, -1");
        Edge.runs(Nets.FILLED + "push(@)!UNKNOWN", "0, 8", "1, -1", "2, 7");
        // Fewer links than nodes, and more of them.
        Edge.run(Nets.line(3) + "push(0, 2)=1 push(1, 2)=2 push(2, 2)!UNKNOWN push(2, 1)=3 push(0, 3)!UNKNOWN");
        Edge.run(Nets.links(14) + "push(2, 13)=1 push(2, 14)!UNKNOWN push(0, 5)=2 push(0, 6)!UNKNOWN push(1, 13)!UNKNOWN segment(0, 1)=13");
        Edge.run(Nets.line(2) + "fail(0) learn(0) learn(1) push(2, 0)=1 push(0, 1)=2");
    }

    private static void pushFull() {
        Edge.of(19, "FULL: 8.");
        Edge.run(Nets.line(2) + "push(0, 1) ".repeat(6) + "push(0, 0)=7 push(1, 1)=8 push(0, 0)!FULL push(2, 0)!FULL push(0, 2)!UNKNOWN push(3, 0)!OUTSIDE segment(7, 0)=1 segment(8, 0)!UNKNOWN clear()=8 push(0, 0)=1");
        Edge.runs(Nets.FILLED + "push(@)!FULL", "0, 0", "1, 7", "2, 6");
        Edge.run(Nets.FILLED + "adopt()=1 push(0, 0)=2");
    }

    private static void clear() {
        Edge.of(20, "THE LIST is empty: how many SEGMENTS it had.");
        Edge.run("clear()=0 push(0, 1)=1 clear()=1 clear()=0 segment(0, 0)!UNKNOWN count(4)=0 send(0)=0");
        Edge.run(Nets.FILLED + "clear()=8 clear()=0 count(5)=8 count(11)=8 count(12)=200");
        Edge.run(Nets.RICH + "clear()=3 count(4)=0 count(5)=2 way(-1)=4 count(13)=1 push(1, 4)=1 segment(0, 1)=4");
    }

    private static void segment() {
        Edge.of(21, "UNKNOWN; OUTSIDE.");
        Edge.runs("segment(@)!UNKNOWN", "0, 0", "-1, 0", "1, 1", "0, 2", "LEAST, 0", "MOST, 1");
        Edge.runs(Nets.RICH + "segment(@)!UNKNOWN", "-1, 0", "3, 0", "8, 1", "3, 2", "-1, -1");
        Edge.run(Nets.FILLED + "segment(7, 0)?1 segment(7, 1)?0 segment(6, 1)?7 segment(8, 0)!UNKNOWN clear()=8 push(0, 3)=1 segment(0, 1)?3 segment(1, 0)!UNKNOWN");
    }

    private static void segmentOutside() {
        Edge.of(21, "Of the k-th SEGMENT (0 on) of THE LIST: KIND (what 0), NODE or LINK (1). UNKNOWN; OUTSIDE.");
        Edge.runs(Nets.RICH + "segment(@)!OUTSIDE", "0, -1", "0, 2", "2, 2", "0, LEAST", "0, MOST");
        Edge.run(Nets.RICH + "segment(0, 0)?0 segment(0, 1)?3 segment(1, 0)?2 segment(1, 1)?4 segment(2, 0)?1 segment(2, 1)?2 segment(3, 0)!UNKNOWN");
    }

    private static void repairUnknown() {
        Edge.of(22, "UNKNOWN (w is the NODE, too)");
        Edge.runs("repair(@)!UNKNOWN", "0, 0, 1, -1", "0, 0, 0, -1", "2, 0, 0, 0", "0, 0, 2, 0");
        Edge.runs(Nets.ROUND + "repair(@)!UNKNOWN", "-1, 0, 1, -1", "5, 0, 1, -1", "0, -1, 1, -1", "0, 5, 1, -1", "0, 0, -1, -1", "0, 0, 5, -1", "0, 0, 0, -1", "4, 0, 4, 0", "0, 0, 0, -2",
            "5, 0, 5, 0", "0, MOST, 1, 0", "LEAST, 0, 1, 0", "0, 5, 1, -2");
        Edge.runs(Nets.RICH + "repair(@)!UNKNOWN", "5, 0, 1, -1", "0, 5, 1, 0", "0, 0, 5, 0", "3, 0, 3, -1");
        Edge.run(Nets.ROUND + "repair(4, 4, 0, -1)?1 repair(0, 4, 4, 0)?4 repair(3, 4, 4, -1)?1");
    }

    private static void repairPlaces() {
        Edge.of(22, "how many SEGMENTS (k NONE), the k-th of them (0 on) as 100 times its KIND and its NODE or LINK together; NONE: it has not so many.");
        Edge.run(Nets.ROUND + "repair(1, 1, 2, -1)?3 repair(1, 1, 2, 0)?0 repair(1, 1, 2, 1)?204 repair(1, 1, 2, 2)?2 repair(1, 1, 2, 3)?NONE repair(1, 1, 2, 4)?NONE repair(1, 1, 2, MOST)?NONE");
        Edge.run(Nets.ROUND + "repair(1, 4, 0, -1)?1 repair(1, 4, 0, 0)?0 repair(1, 4, 0, 1)?NONE");
        // The numbers of links of two digits.
        Edge.run(Nets.links(14) + "tune(13, 9, 1) fail(0) fail(1) fail(2) fail(5) fail(6) fail(7) fail(8) fail(9) fail(10) fail(11) learn(3) "
            + Nets.row("repair(3, 12, 5, ", 213) + Nets.row("repair(3, 13, 5, ", 5));
        Edge.run(Nets.TRIANGLE + "tune(1, 9, 9) " + Nets.row("repair(0, 0, 1, ", 201, 1) + Nets.row("repair(0, 1, 2, ", 2) + Nets.row("repair(0, 0, 2, ", 201));
    }

    private static void repairNot() {
        Edge.of(22, "OUTSIDE: k below -1; NOT: there is none.");
        Edge.runs(Nets.ROUND + "repair(0, 0, 1, @)!OUTSIDE", "-2", "-3", "LEAST");
        Edge.runs(Nets.RICH + "repair(0, 0, 1, @)!OUTSIDE", "-2", "LEAST");
        Edge.runs(Nets.line(2) + "repair(0, 0, 1, @)!NOT", "-1", "0", "MOST");
        Edge.runs(Nets.line(2) + "repair(0, 0, 1, @)!OUTSIDE", "-2", "LEAST");
        Edge.runs(Nets.FILLED + "repair(0, 1, 7, @)!NOT", "-1", "0", "7");
        Edge.run(Nets.line(3) + "repair(0, 0, 1, -1)!NOT repair(0, 1, 1, -1)?1 repair(0, 1, 2, -1)!NOT repair(1, 0, 2, -1)?1");
    }

    private static void traceUnknown() {
        Edge.of(23, "A NODE more at the end of THE TRACE: how many it has. UNKNOWN");
        Edge.runs("trace(@)!UNKNOWN trace(1)=1", "-1", "2", "LEAST", "MOST");
        Edge.runs(Nets.RICH + "trace(@)!UNKNOWN", "-1", "5", "32");
        Edge.runs(Nets.FILLED + "trace(@)!UNKNOWN", "-1", "8");
        Edge.run(Nets.line(8) + "trace(7)=1 trace(6)=2 trace(8)!UNKNOWN trace(5)=3");
    }

    private static void traceNot() {
        Edge.of(23, "NOT: it is of THE TRACE, or has no LINK with the last one");
        Edge.run("trace(0)=1 trace(0)!NOT trace(1)!NOT 'link0 1 1 1' tell()=1 count(5)=1 trace(1)=2 trace(1)!NOT trace(0)!NOT");
        Edge.run(Nets.RICH + "trace(4)!NOT trace(0)!NOT trace(1)!NOT trace(2)!NOT trace(3)=3 trace(4)!NOT trace(1)!NOT trace(2)=4");
        // A link that is down, or that no node has seen, is a link.
        Edge.run(Nets.line(3) + "fail(1) learn(0) learn(1) learn(2) trace(0)=1 trace(2)!NOT trace(1)=2 trace(2)=3");
        Edge.run(Nets.cycle(4) + "trace(0)=1 trace(2)!NOT trace(3)=2 trace(0)!NOT trace(1)!NOT trace(2)=3 trace(1)=4 trace(0)!NOT");
    }

    private static void traceFull() {
        Edge.of(23, "FULL: 8.");
        // With 8 nodes of it each node is of it, so that NOT is the first that fits.
        Edge.run(Nets.cycle(8) + Nets.trace(0, 1, 2, 3, 4, 5, 6) + "trace(0)!NOT trace(7)=8 trace(0)!NOT trace(7)!NOT trace(8)!UNKNOWN count(5)=8 untrace()=8 trace(0)=1");
        Edge.run(Nets.cycle(7) + Nets.trace(0, 1, 2, 3, 4, 5, 6) + "trace(0)!NOT trace(7)!UNKNOWN");
    }

    private static void untrace() {
        Edge.of(24, "THE TRACE has no NODES: how many it had.");
        Edge.run("untrace()=0 trace(1)=1 untrace()=1 untrace()=0 count(5)=0 brief(-1)!NOT trace(0)=1");
        Edge.run(Nets.FILLED + "untrace()=8 untrace()=0 count(4)=8 trace(5)=1 trace(3)!NOT");
        Edge.run(Nets.RICH + "untrace()=2 count(4)=3 brief(-1)!NOT adopt()!NOT trace(2)=1");
    }

    private static void briefPlaces() {
        Edge.of(25, "as repair(). OUTSIDE: k below -1");
        Edge.runs("brief(@)!OUTSIDE", "-2", "LEAST");
        Edge.runs(Nets.RICH + "brief(@)!OUTSIDE", "-2", "-3", "LEAST");
        Edge.run(Nets.RICH + "brief(-1)?1 brief(0)?104 brief(1)?NONE brief(2)?NONE brief(MOST)?NONE");
        Edge.run(Nets.FILLED + "brief(-1)?1 brief(0)?7 brief(1)?NONE");
        Edge.run(Nets.cycle(8) + Nets.trace(0, 1, 2, 3, 4, 5, 6, 7) + "brief(-2)!OUTSIDE brief(-1)?2 brief(0)?4 brief(1)?7 brief(2)?NONE brief(3)?NONE");
        // As 100 times the KIND and a link of two digits together.
        Edge.run(Nets.links(14) + "tune(13, 9, 9) " + Nets.trace(3, 5) + "brief(-1)?1 brief(0)?213 brief(1)?NONE tune(13, 9, 1) brief(0)?105 tune(13, 2, 9) brief(0)?213 tune(13, 1, 9) brief(0)?5");
    }

    private static void briefNot() {
        Edge.of(25, "NOT: THE TRACE has no NODE, or there is no such LIST.");
        Edge.runs("brief(@)!NOT", "-1", "0", "1", "MOST");
        Edge.run("brief(-1)!NOT trace(0)=1 brief(-1)?0 brief(0)?NONE untrace()=1 brief(0)!NOT");
        Edge.runs(Nets.line(3) + "fail(1) learn(0) trace(0) trace(1) trace(2) brief(@)!NOT", "-1", "0", "MOST");
        Edge.runs(Nets.line(3) + "fail(1) learn(0) trace(0) trace(1) trace(2) brief(@)!OUTSIDE", "-2", "LEAST");
        Edge.run(Nets.line(3) + "fail(1) learn(0) trace(0) trace(1)=2 brief(-1)?1 trace(2)=3 brief(-1)!NOT heal(1) brief(-1)!NOT learn(0)=1 brief(-1)?1");
        // What the first node has seen is what it goes by, all the way.
        Edge.run(Nets.line(3) + "fail(0) learn(1) learn(2) trace(0) trace(1) trace(2) brief(0)?2 untrace() trace(1) trace(0)=2 brief(0)!NOT");
    }

    private static void adopt() {
        Edge.of(26, "THE LIST becomes THE SHORT LIST of THE TRACE: how many SEGMENTS.");
        Edge.run("trace(0)=1 push(0, 1)=1 adopt()=0 count(4)=0 adopt()=0 segment(0, 0)!UNKNOWN");
        Edge.run(Nets.RICH + "adopt()=1 count(4)=1 segment(0, 0)?1 segment(0, 1)?4 segment(1, 0)!UNKNOWN count(5)=2 brief(0)=104 adopt()=1 push(2, 0)=2");
        Edge.run(Nets.FILLED + "adopt()=1 segment(0, 1)=7 segment(1, 0)!UNKNOWN count(5)=8");
        Edge.run(Nets.cycle(8) + Nets.trace(0, 1, 2, 3, 4, 5, 6, 7) + "adopt()=2 segment(0, 1)=4 segment(1, 1)=7 segment(2, 0)!UNKNOWN push(0, 0) push(0, 1) push(0, 2) push(0, 3) push(0, 4) push(0, 5)=8 "
            + "push(0, 6)!FULL");
        Edge.run(Nets.links(14) + "tune(13, 9, 9) " + Nets.trace(3, 5) + "adopt()=1 segment(0, 0)?2 segment(0, 1)?13");
    }

    private static void adoptNot() {
        Edge.of(26, "NOT, as of brief().");
        Edge.run("adopt()!NOT push(0, 1)=1 adopt()!NOT count(4)=1 segment(0, 1)=1");
        Edge.run(Nets.RICH + "untrace()=2 adopt()!NOT count(4)=3 segment(0, 1)=3");
        Edge.run(Nets.line(3) + Nets.list(2, 201) + "fail(1) learn(0) trace(0) trace(1) trace(2) adopt()!NOT count(4)=2 count(5)=3 segment(1, 1)=1 heal(1) learn(0) adopt()=1 segment(0, 1)=2");
    }
}
