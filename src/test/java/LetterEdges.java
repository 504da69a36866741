import java.util.Arrays;

/** The edges of letters: what the terms say of them, and promises 27 to 30. */
final class LetterEdges {
    // From 0 to 3 there are three hops; round 1 and 4 two ways to 5 and back; nothing comes to 6.
    private static final String TAIL = "'nodes7;link0 1 1 1;link1 2 1 1;link2 3 1 1;link1 4 1 1;link4 5 1 1;link1 5 8 9;link2 4 9 9' tell()=8 ";
    private static final int[] NINETEEN = {3, 0, 3, 0, 3, 0, 1};
    private static final int[] TWENTY = {3, 0, 3, 0, 3, 0, 2};

    private LetterEdges() {
    }

    static void all() {
        there();
        takenOff();
        twentyHops();
        twentyHopsComeFirst();
        lostWithoutNext();
        lostAtNoEnd();
        protectIsOff();
        mendedOnce();
        mendedAtTheLastHop();
        noRepair();
        topOneIsTakenOff();
        putOnTop();
        countsOfLinks();
        protect();
        send();
        sendKeeps();
        way();
        wayNone();
        wayOncePerHop();
        counts();
        countsSinceTheText();
        countsUndoable();
        countsLetters();
        countsMended();
    }

    private static String list(int[] segments, int... more) {
        int[] all = Arrays.copyOf(segments, segments.length + more.length);
        System.arraycopy(more, 0, all, segments.length, more.length);
        return Nets.list(all);
    }

    private static void there() {
        Edge.of(0, "No SEGMENT left: it is THERE.");
        Edge.run("send(0)=0 way(-1)=0 way(0)=0 way(1)=NONE count(8)=1 send(1)=1 count(8)=2 count(7)=2 count(10)=0");
        Edge.run(Nets.line(3) + Nets.list(2) + "send(0)=2 " + Nets.way(0, 1, 2) + "send(2)=2 " + Nets.way(2) + "send(1)=2 " + Nets.way(1, 2));
    }

    private static void takenOff() {
        Edge.of(0, "SEGMENTS on top of KIND 0, 1 and u itself are taken off.");
        Edge.run(Nets.line(3) + Nets.list(0, 100, 0, 100, 0, 100, 0, 100) + "send(0)=0 " + Nets.way(0) + "send(1)=0 " + Nets.way(1, 0));
        Edge.run(Nets.line(3) + Nets.list(0, 100, 0, 100, 0, 100, 0, 1) + "send(0)=1 " + Nets.way(0, 1));
        Edge.run(Nets.line(3) + Nets.list(1, 101, 1, 102, 2) + "send(0)=2 " + Nets.way(0, 1, 2));
        // Those below the top one stay, and those over the link of that number.
        Edge.run(Nets.line(3) + Nets.list(1, 0) + "send(0)=0 " + Nets.way(0, 1, 0));
        Edge.run(Nets.line(3) + Nets.list(200) + "send(0)=1 " + Nets.way(0, 1) + Nets.list(201) + "send(1)=2 " + Nets.way(1, 2));
        Edge.run(Nets.line(3) + Nets.list(102) + "fail(1) learn(2) send(2)=2 " + Nets.way(2));
    }

    private static void twentyHops() {
        Edge.of(0, "Else, if it did 20 HOPS, it is LOST (-14).");
        Edge.run(TAIL + list(NINETEEN) + "send(0)=1 way(-1)?19 way(19)?1 way(20)?NONE count(8)=1 count(10)=0");
        Edge.run(TAIL + list(TWENTY) + "send(0)=2 way(-1)?20 way(19)?1 way(20)?2 way(21)?NONE count(8)=1 count(10)=0");
        Edge.run(TAIL + list(TWENTY, 3) + "send(0)=-14 way(-1)?20 way(20)?2 way(21)?NONE count(8)=0 count(10)=1 link(2, 5)=6");
        Edge.run(TAIL + list(TWENTY, 202) + "send(0)=-14 way(-1)?20 count(8)=0 count(10)=1 link(2, 5)=6");
        // The last ones may be taken off yet.
        Edge.run(TAIL + list(TWENTY, 102) + "send(0)=2 way(-1)?20 count(8)=1 count(10)=0");
        Edge.run(TAIL + list(TWENTY, 2) + "send(0)=2 way(-1)?20 count(8)=1 count(10)=0");
        // Two that go round by what they have seen.
        Edge.run(Nets.TRIANGLE + "fail(1) learn(0) heal(1) fail(2) learn(1) heal(2) " + Nets.list(2) + "send(0)=-14 way(-1)=20 way(19)=1 way(20)=0 "
            + "link(0, 5)=20 send(1)=-14 way(20)=1 link(0, 5)=40 send(2)=2 learn(0) send(1)=2 way(-1)=2");
    }

    private static void twentyHopsComeFirst() {
        Edge.of(0, "if it did 20 HOPS, it is LOST (-14). By the top one");
        Edge.run(TAIL + list(NINETEEN, 6) + "send(0)=-11 way(-1)=19");
        Edge.run(TAIL + list(TWENTY, 6) + "send(0)=-14 way(-1)=20");
        Edge.run(TAIL + list(NINETEEN, 202) + "send(0)=-13 way(-1)=19");
        Edge.run(TAIL + list(TWENTY, 200) + "send(0)=-14 way(-1)=20");
        Edge.run(TAIL + list(NINETEEN, 203) + "fail(3) send(0)=-12 way(-1)=19");
        Edge.run(TAIL + list(TWENTY, 206) + "fail(6) send(0)=-14 way(-1)=20 protect(1) send(0)=-14 count(9)=0 count(13)=0");
    }

    private static void lostWithoutNext() {
        Edge.of(0, "there is none: LOST (-11)");
        Edge.runs("push(@, 1) send(0)=-11 way(-1)=0 way(0)=0 count(10)=1 count(8)=0 send(1)=1 count(8)=1", "0", "1");
        Edge.run(Nets.line(3) + "fail(1) learn(1) " + Nets.list(2) + "send(1)=-11 " + Nets.way(1) + "send(0)=-11 " + Nets.way(0, 1)
            + "heal(1) send(0)=-11 learn(1) send(0)=2 learn(0) send(0)=2");
        Edge.run(Nets.line(3) + "protect(1) fail(1) learn(1) " + Nets.list(2) + "send(1)=-11 count(9)=0");
    }

    private static void lostAtNoEnd() {
        Edge.of(0, "u is no end of it: LOST (-13)");
        Edge.run(Nets.line(4) + Nets.list(201) + "send(0)=-13 " + Nets.way(0) + "send(1)=2 " + Nets.way(1, 2) + "send(2)=1 " + Nets.way(2, 1)
            + "send(3)=-13 " + Nets.way(3) + "count(10)=2 count(8)=2");
        // Ahead of what is said of a LINK that is DOWN.
        Edge.run(Nets.cycle(4) + "protect(1) fail(1) " + Nets.list(201) + "send(0)=-13 send(3)=-13 count(9)=0 send(1)=2 send(2)=1 count(9)=2");
        Edge.run(Nets.line(4) + Nets.list(1, 201, 201) + "send(0)=1 " + Nets.way(0, 1, 2, 1) + Nets.list(1, 200, 201) + "send(0)=-13 " + Nets.way(0, 1, 0));
    }

    private static void protectIsOff() {
        Edge.of(0, "if PROTECT is on (off at first)");
        String down = Nets.ROUND + "fail(1) " + Nets.list(2);
        Edge.run(down + "send(0)=-12 " + Nets.way(0, 1) + "count(9)=0 protect(0)=0 send(0)=-12 protect(1)=0 send(0)=2 "
            + Nets.way(0, 1, 0, 4, 3, 2) + "count(9)=1 protect(0)=1 send(0)=-12 count(9)=1");
    }

    private static void mendedOnce() {
        Edge.of(0, "it was not MENDED yet");
        // Two links that are down, one behind the other; none has learnt so.
        String two = Nets.ROUND + "protect(1) " + Nets.list(2, 101, 4);
        Edge.run(two + "send(0)=4 count(13)=0 count(9)=0");
        Edge.run(two + "fail(1) send(0)=-12 count(13)=1 count(9)=1 way(-1)=5");
        Edge.run(Nets.ROUND + "protect(1) fail(1) fail(4) " + Nets.list(2) + "send(0)=-12 " + Nets.way(0, 1, 0) + "count(13)=1 count(9)=1 count(10)=1 "
            + "heal(4) send(0)=2 count(9)=2 count(8)=1 heal(1) send(0)=2 count(13)=0 count(9)=2");
    }

    private static void mendedAtTheLastHop() {
        Edge.of(0, "it is MENDED, and goes on from u");
        String down = TAIL + "fail(3) protect(1) ";
        Edge.run(down + list(NINETEEN, 5) + "send(0)=5 way(-1)=20 way(20)=5 count(13)=1 count(9)=1 count(8)=1");
        Edge.run(down + list(NINETEEN, 203) + "send(0)=-14 way(-1)=20 way(20)=5 count(13)=1 count(9)=1 count(10)=1");
        Edge.run(down + list(TWENTY, 5) + "send(0)=-14 way(-1)=20 way(20)=2 count(13)=0 count(9)=0 count(10)=1");
        Edge.run(down + Nets.list(5) + "send(1)=5 " + Nets.way(1, 5) + "send(0)=5 " + Nets.way(0, 1, 5) + "count(9)=2");
    }

    private static void noRepair() {
        Edge.of(0, "there is a REPAIR of u, that LINK and w");
        Edge.run(Nets.line(2) + "protect(1) fail(0) push(0, 1) send(0)=-12 count(13)=0 count(9)=0 count(10)=1");
        Edge.run(Nets.TRIANGLE + "protect(1) fail(0) push(0, 1) send(0)=1 " + Nets.way(0, 2, 1) + "fail(1) learn(0) send(0)=-11 heal(1) send(0)=-11 "
            + "undo()=3 undo()=2 send(0)=-12 count(13)=1 undo()=1 send(0)=1 count(13)=1");
        // For a SEGMENT of KIND 2 the REPAIR is to the other end, though the link there is not seen.
        Edge.run(Nets.TRIANGLE + "protect(1) fail(0) learn(0) fail(1) learn(0) heal(1) push(2, 0) send(0)=-12 count(9)=0 learn(0) send(0)=1 "
            + Nets.way(0, 2, 1) + "count(9)=1");
    }

    private static void topOneIsTakenOff() {
        Edge.of(0, "(KIND 2: the other end, and the top one is taken off)");
        String down = Nets.TRIANGLE + "protect(1) fail(0) ";
        Edge.run(down + Nets.list(200) + "send(0)=1 " + Nets.way(0, 2, 1) + "send(1)=0 " + Nets.way(1, 2, 0));
        Edge.run(down + Nets.list(200, 202) + "send(0)=2 " + Nets.way(0, 2, 1, 2));
        Edge.run(down + Nets.list(200, 200) + "send(0)=-12 " + Nets.way(0, 2, 1) + "count(13)=1");
        Edge.run(down + Nets.list(1, 202) + "send(0)=2 " + Nets.way(0, 2, 1, 2));
    }

    private static void putOnTop() {
        Edge.of(0, "the SEGMENTS of that are put on top, the first one the topmost");
        Edge.run(Nets.ROUND + "protect(1) fail(1) " + Nets.row("repair(1, 1, 2, ", 0, 204, 2) + Nets.list(2) + "send(1)=2 " + Nets.way(1, 0, 4, 3, 2));
        // Seven more are below: none of them is lost.
        Edge.run(Nets.ROUND + "protect(1) fail(1) " + Nets.list(201, 3, 4, 3, 2, 3, 4, 3) + "send(1)=3 " + Nets.way(1, 0, 4, 3, 2, 3, 4, 3, 2, 3, 4, 3));
    }

    private static void countsOfLinks() {
        Edge.of(0, "(a HOP, COUNT of the LINK is 1 more; KIND 2: the top one is taken off)");
        Edge.run(Nets.line(3) + Nets.list(200, 200, 201) + "link(0, 5)?0 send(1)=2 " + Nets.way(1, 0, 1, 2) + "link(0, 5)?2 link(1, 5)?1");
        Edge.run(Nets.line(3) + Nets.list(200, 200, 200) + "send(0)=1 link(0, 5)?3 link(1, 5)?0 fail(0) send(0)=-12 link(0, 5)?3");
        Edge.run(Nets.line(3) + Nets.list(2) + "send(2)=2 link(1, 5)=0 send(1)=2 link(1, 5)=1 link(0, 5)=0 send(0)=2 link(1, 5)=2 link(0, 5)=1");
    }

    // ---- the promises

    private static void protect() {
        Edge.of(27, "PROTECT is on (1), off (0): what it was. OUTSIDE.");
        Edge.runs("protect(@)!OUTSIDE", "-1", "2", "LEAST", "MOST");
        Edge.run("count(6)?0 protect(0)=0 protect(1)=0 count(6)?1 protect(2)!OUTSIDE protect(-1)!OUTSIDE protect(1)=1 protect(0)=1 count(6)?0 protect(1)=0");
        Edge.runs(Nets.RICH + "protect(@)!OUTSIDE count(6)=1", "-1", "2");
    }

    private static void send() {
        Edge.of(28, "the NODE at which it is THERE; -11 .. -14: LOST. UNKNOWN.");
        Edge.runs("send(@)!UNKNOWN way(-1)=NONE count(7)=0", "-1", "2", "LEAST", "MOST");
        Edge.runs(Nets.RICH + "send(@)!UNKNOWN count(13)=1 count(7)=2", "-1", "5", "32");
        Edge.runs(Nets.FILLED + "send(@)!UNKNOWN", "-1", "8");
        Edge.run(Nets.line(8) + "send(0)=0 send(7)=7 push(1, 7) send(0)=7 push(1, 0) send(7)=0 way(-1)=7");
        Edge.run(Nets.cycle(4) + "'nodes3;link0 1 1 1' tell()=2 send(3)!UNKNOWN send(2)=2 push(0, 2) send(1)=-11");
    }

    private static void sendKeeps() {
        Edge.of(28, "(THE LIST keeps its SEGMENTS)");
        String sent = Nets.ROUND + "protect(1) fail(1) " + Nets.list(2, 204, 102);
        String kept = "count(4)=3 segment(0, 0)=0 segment(0, 1)=2 segment(1, 0)=2 segment(1, 1)=4 segment(2, 0)=1 segment(2, 1)=2 ";
        Edge.run(sent + "send(0)=-13 count(13)=1 " + kept + "send(0)=-13 " + kept + "send(3)=-13 " + kept);
        Edge.run(Nets.line(3) + Nets.list(0) + "send(0)=0 count(4)=1 segment(0, 1)=0 send(2)=0 count(4)=1");
    }

    private static void way() {
        Edge.of(29, "OUTSIDE: k below -1.");
        Edge.runs("way(@)!OUTSIDE", "-2", "LEAST");
        Edge.runs(Nets.RICH + "way(@)!OUTSIDE", "-2", "-3", "LEAST");
        Edge.run(Nets.line(3) + "push(0, 2) send(0)=2 way(-2)!OUTSIDE way(-1)?2 way(0)?0 way(1)?1 way(2)?2 way(3)?NONE way(MOST)?NONE");
        Edge.run(Nets.line(3) + "send(1)=1 way(-1)?0 way(0)?1 way(1)?NONE");
    }

    private static void wayNone() {
        Edge.of(29, "NONE: not so many; none was SENT (k NONE, too).");
        Edge.runs("way(@)?NONE", "-1", "0", "1", "MOST");
        Edge.run(Nets.line(3) + "push(0, 2) way(-1)?NONE send(3)!UNKNOWN way(-1)?NONE send(0)=2 way(-1)?2 'link0 1 1 1' tell()=1 way(-1)?NONE way(0)?NONE "
            + "send(1)=2 " + Nets.way(1, 2));
        Edge.run(Nets.line(3) + "push(0, 2) send(0)=2 'link0 1 1' tell()!NOT way(-1)=2 erase()=9 way(-1)=2 way(2)=2");
    }

    private static void wayOncePerHop() {
        Edge.of(29, "the k-th NODE at which it was (0 on, where it was SENT from first; a NODE once for each HOP to it)");
        Edge.run(Nets.line(3) + Nets.list(1, 101, 0, 100, 1) + "send(0)=1 " + Nets.way(0, 1, 0, 1));
        // Where it was MENDED it does not come to once more.
        Edge.run(Nets.TRIANGLE + "protect(1) fail(0) push(0, 1) send(0)=1 " + Nets.way(0, 2, 1) + "send(2)=1 " + Nets.way(2, 1));
        Edge.run(Nets.line(3) + Nets.list(2) + "send(0)=2 send(1)=2 " + Nets.way(1, 2) + "send(2)=2 " + Nets.way(2) + "fail(1) send(0)=-12 " + Nets.way(0, 1));
    }

    private static void counts() {
        Edge.of(30, "OUTSIDE.");
        Edge.runs("count(@)!OUTSIDE", "-1", "14", "LEAST", "MOST");
        Edge.runs(Nets.RICH + "count(@)!OUTSIDE", "-1", "14", "15", "LEAST", "MOST");
        Edge.run(Nets.RICH + "count(0)?5 count(1)?5 count(2)?4 count(3)?4 count(4)?3 count(5)?2 count(6)?1 count(7)?2 count(8)?1 count(9)?1 "
            + "count(10)?1 count(11)?3 count(12)?11 count(13)?1");
        Edge.run("count(0)?2 count(13)?0 count(1)?0 count(12)?0");
    }

    private static void countsSinceTheText() {
        Edge.of(30, "7 LETTERS SENT, 8 THERE, 9 MENDED, 10 LOST (7 to 10: since the last text)");
        String sent = Nets.TRIANGLE + "protect(1) fail(0) push(0, 1) send(1)=1 send(0)=1 fail(1) send(0)=-12 send(1)=1 ";
        String zero = "count(7)=0 count(8)=0 count(9)=0 count(10)=0 ";
        Edge.run(sent + "count(7)=4 count(8)=3 count(9)=2 count(10)=1 'link0 1' tell()!NOT count(7)=4 ' 1 1' tell()=1 " + zero
            + "send(1)=1 count(7)=1 count(8)=1 fail(2) send(0)=-12 count(7)=2 count(10)=1 count(8)=1 count(9)=1");
        Edge.run(sent + "'nodes3' tell()=1 " + zero + "count(6)=0");
        Edge.run(sent + "undo()=1 undo()=0 count(7)=4 count(8)=3 count(9)=2 count(10)=1");
    }

    private static void countsUndoable() {
        Edge.of(30, "11 how many can be undone");
        Edge.run(Nets.line(3) + "count(11)?0 fail(0) count(11)?1 tune(0, 1, 1) learn(1) learn(1) fail(1) heal(0) learn(0) count(11)?7 heal(1) count(11)?8 "
            + "heal(1)!NOT count(11)=8 learn(2) count(11)?8 undo()=7 count(11)?7 heal(1)!NOT count(11)=7 tune(0, 0, 1)!OUTSIDE count(11)=7");
    }

    private static void countsLetters() {
        Edge.of(30, "12 letters of THE TEXT");
        Edge.run("count(12)?0 write(0)=1 count(12)?1 write(256)!OUTSIDE count(12)?1 erase()=1 count(12)?0");
        Edge.run("write(255) ".repeat(199) + "count(12)?199 write(0)=200 count(12)?200 write(0)!FULL count(12)?200");
        Edge.run("'nodes 3' tell()=1 count(12)?0 'nodes 9' tell()!NOT count(12)?7");
    }

    private static void countsMended() {
        Edge.of(30, "13 1 the LETTER SENT last was MENDED, else 0");
        Edge.run(Nets.TRIANGLE + "protect(1) fail(0) count(13)?0 push(0, 1) send(2)=1 count(13)?0 send(0)=1 count(13)?1 send(3)!UNKNOWN count(13)?1 "
            + "send(1)=1 count(13)?0 send(0)=1 'link0 1 1 1' tell()=1 count(13)?0");
        Edge.run(Nets.TRIANGLE + "protect(1) fail(0) fail(2) push(0, 1) send(0)=-12 " + Nets.way(0, 2) + "count(13)?1 count(9)=1 protect(0)=1 send(0)=-12 count(13)?0 count(9)=1");
    }
}
