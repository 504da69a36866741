/** The edges of the net: promises 7 to 18. */
final class NetEdges {
    private static final String[] NO_NODE = {"-1", "5", "32", "LEAST", "MOST"};

    private NetEdges() {
    }

    static void all() {
        fail();
        heal();
        tuneUnknown();
        tuneOutside();
        learn();
        learnOtherwise();
        undoNone();
        undoLastEight();
        undoGoesRound();
        undoOfNothing();
        undoCountsStay();
        undoNotRefused();
        seen();
        nextNone();
        nextOutside();
        farNone();
        farOutside();
        spaceToo();
        spaceNone();
        spaceOutside();
        rings();
        safe();
        safeOfAny();
        orderPlaces();
        orderNot();
    }

    private static void fail() {
        Edge.of(7, "A LINK is DOWN: how many are UP. UNKNOWN; NOT: it is DOWN.");
        Edge.runs("fail(@)!UNKNOWN", "-1", "0", "LEAST", "MOST");
        Edge.runs(Nets.ROUND + "fail(@)!UNKNOWN", NO_NODE);
        Edge.runs(Nets.RICH + "fail(@)!UNKNOWN", "-1", "5");
        Edge.run(Nets.RICH + "fail(1)!NOT count(11)=3 fail(0)=3 fail(0)!NOT count(11)=4");
        Edge.run(Nets.ROUND + "fail(4)=4 fail(4)!NOT fail(0)=3 fail(2)=2 fail(1)=1 fail(3)=0 fail(3)!NOT count(2)=0 heal(3)=1 fail(3)=0");
        Edge.run(Nets.links(14) + "fail(13)=13 fail(13)!NOT fail(0)=12 link(13, 4)=0 link(12, 4)=1 link(0, 4)=0 link(1, 4)=1 fail(14)!UNKNOWN");
        Edge.run(Nets.FILLED + "fail(1)!NOT fail(7)!UNKNOWN");
    }

    private static void heal() {
        Edge.of(8, "A LINK is UP: how many are. UNKNOWN; NOT: it is UP.");
        Edge.runs("heal(@)!UNKNOWN", "-1", "0", "LEAST", "MOST");
        Edge.runs(Nets.ROUND + "heal(@)!UNKNOWN", NO_NODE);
        Edge.runs(Nets.RICH + "heal(@)!UNKNOWN", "-1", "5");
        Edge.run(Nets.RICH + "heal(0)!NOT count(11)=3 heal(1)=5 heal(1)!NOT count(11)=4");
        Edge.run(Nets.line(3) + "heal(0)!NOT fail(0)=1 fail(1)=0 heal(1)=1 heal(1)!NOT heal(0)=2 heal(0)!NOT seen(0)=3");
        Edge.run(Nets.links(14) + "heal(13)!NOT fail(13)=13 heal(13)=14 heal(13)!NOT heal(14)!UNKNOWN");
        Edge.run(Nets.FILLED + "heal(0)!NOT heal(7)!UNKNOWN");
    }

    private static void tuneUnknown() {
        Edge.of(9, "A LINK has another COST, DELAY: what COST it had. UNKNOWN");
        Edge.runs("tune(@, 1, 1)!UNKNOWN", "-1", "0", "MOST");
        Edge.runs(Nets.ROUND + "tune(@, 1, 1)!UNKNOWN", NO_NODE);
        Edge.runs(Nets.RICH + "tune(@, 0, 10)!UNKNOWN", "-1", "5");
        Edge.run(Nets.ROUND + "tune(4, 2, 3)=9 tune(4, 4, 5)=2 tune(4, 4, 5)=4 link(4, 2)=4 link(4, 3)=5 link(3, 2)=1 tune(5, 1, 1)!UNKNOWN");
    }

    private static void tuneOutside() {
        Edge.of(9, "UNKNOWN; OUTSIDE.");
        Edge.runs(Nets.ROUND + "tune(4, @)!OUTSIDE link(4, 2)=9 link(4, 3)=1", "0, 1", "1, 0", "10, 1", "1, 10", "-1, 1", "1, -1", "LEAST, 1", "1, LEAST",
            "MOST, 1", "1, MOST", "0, 0", "10, 10");
        Edge.runs(Nets.RICH + "tune(0, @)!OUTSIDE", "0, 5", "5, 0", "10, 5", "5, 10");
        Edge.run(Nets.ROUND + "tune(4, 1, 9)=9 link(4, 2)?1 link(4, 3)?9 tune(4, 9, 1)=1 link(4, 2)?9 link(4, 3)?1 tune(4, 2, 8)=9 tune(4, 8, 2)=2 "
            + "tune(4, 1, 1)=8 tune(4, 9, 9)=1 link(4, 2)=9");
        Edge.run(Nets.FILLED + "tune(0, 10, 1)!OUTSIDE tune(7, 1, 1)!UNKNOWN");
    }

    private static void learn() {
        Edge.of(10, "how many LINKS it held otherwise. UNKNOWN.");
        Edge.runs("learn(@)!UNKNOWN", "-1", "2", "LEAST", "MOST");
        Edge.runs(Nets.RICH + "learn(@)!UNKNOWN", NO_NODE);
        Edge.runs(Nets.FILLED + "learn(@)!UNKNOWN", "-1", "8");
        Edge.run("learn(0)=0 learn(1)=0 learn(2)!UNKNOWN count(11)=2");
    }

    private static void learnOtherwise() {
        Edge.of(10, "A NODE has SEEN just the LINKS that are UP");
        StringBuilder all = new StringBuilder(Nets.links(14));
        for (int link = 0; link < 14; link++) {
            all.append("fail(").append(link).append(") ");
        }
        Edge.run(all + "seen(0)?16383 learn(0)=14 seen(0)?0 learn(0)=0 heal(13) learn(0)=1 seen(0)?8192 learn(1)=13 seen(1)?8192 count(3)=4");
        Edge.run(Nets.ROUND + "learn(0)=0 fail(0) learn(0)=1 fail(1) heal(0) learn(0)=2 seen(0)?29 learn(0)=0 learn(1)=1 seen(2)?31");
    }

    private static void undoNone() {
        Edge.of(11, "how many can be undone yet. NOT: none.");
        Edge.run("undo()!NOT learn(0)=0 undo()=0 undo()!NOT");
        Edge.run(Nets.RICH + "undo()=2 link(3, 2)=1 undo()=1 seen(2)=31 undo()=0 link(1, 4)=1 undo()!NOT count(11)=0 learn(0)=0 undo()=0 undo()!NOT");
        Edge.run(Nets.ROUND + "fail(0) learn(0) undo()=1 'link0 1 1 1' undo()=0 erase()=11 fail(1) 'link0 1 1 1' tell()=1 undo()!NOT link(1, 4)=0");
    }

    private static String tunes(int from, int to) {
        StringBuilder calls = new StringBuilder();
        for (int price = from; price <= to; price++) {
            calls.append("tune(0, ").append(price).append(", ").append(price).append(") ");
        }
        return calls.toString();
    }

    private static void undoLastEight() {
        Edge.of(11, "(the last 8 can be; COUNTS stay)");
        Edge.run(Nets.line(2) + tunes(2, 8) + "count(11)=7 " + "undo() ".repeat(6) + "undo()=0 undo()!NOT link(0, 2)=1 link(0, 3)=1");
        Edge.run(Nets.line(2) + tunes(2, 9) + "count(11)=8 undo()=7 link(0, 2)=8 " + "undo() ".repeat(6) + "undo()=0 undo()!NOT link(0, 2)=1");
        Edge.run(Nets.line(2) + tunes(1, 9) + "count(11)=8 undo()=7 link(0, 2)=8 " + "undo() ".repeat(6) + "undo()=0 undo()!NOT link(0, 2)=1");
        Edge.run(Nets.line(2) + tunes(2, 9) + "tune(0, 1, 5) count(11)=8 " + "undo() ".repeat(7) + "undo()=0 undo()!NOT link(0, 2)=2 link(0, 3)=2");
        Edge.run(Nets.line(2) + tunes(2, 9) + "fail(0) learn(1) count(11)=8 undo()=7 seen(1)=1 undo()=6 link(0, 4)=1 " + "undo() ".repeat(5)
            + "undo()=0 undo()!NOT link(0, 2)=3");
    }

    private static void undoGoesRound() {
        Edge.of(11, "The latest fail(), heal(), tune(), learn() that was not refused is undone");
        // Each kind of change at each of the eight places, and back over the first of them.
        String four = "fail(0) learn(0) tune(1, 5, 6) heal(0) ";
        for (int ahead = 0; ahead <= 8; ahead++) {
            String run = Nets.line(3) + "tune(0, 2, 2) ".repeat(ahead) + four;
            int size = Math.min(ahead + 4, 8);
            Edge.run(run + "undo()=" + (size - 1) + " link(0, 4)=0 undo()=" + (size - 2) + " link(1, 2)=1 link(1, 3)=1 seen(0)=2 undo()=" + (size - 3)
                + " seen(0)=3 link(0, 4)=0 undo()=" + (size - 4) + " link(0, 4)=1 link(0, 2)=" + (ahead == 0 ? 1 : 2) + " " + four + "count(11)=" + size);
        }
        Edge.run(Nets.line(2) + "fail(0) undo()=0 ".repeat(9) + "undo()!NOT link(0, 4)=1 " + tunes(2, 9) + tunes(1, 9) + tunes(1, 9) + "undo() ".repeat(8)
            + "undo()!NOT link(0, 2)=1 link(0, 3)=1");
    }

    private static void undoOfNothing() {
        Edge.of(11, "also one by which nothing became other");
        Edge.run(Nets.line(3) + "learn(0)=0 tune(0, 1, 1)=1 count(11)=2 undo()=1 undo()=0 undo()!NOT");
        Edge.run(Nets.line(3) + "fail(0) " + "learn(2) ".repeat(8) + "undo() ".repeat(8) + "undo()!NOT link(0, 4)=0 seen(2)=3");
        Edge.run(Nets.line(3) + "fail(0) " + "learn(2) ".repeat(9) + "undo() ".repeat(8) + "undo()!NOT link(0, 4)=0 seen(2)=2");
        Edge.run(Nets.line(3) + "fail(0) " + "learn(2) ".repeat(7) + "undo() ".repeat(7) + "link(0, 4)=0 undo()=0 link(0, 4)=1 seen(2)=3 undo()!NOT");
    }

    private static void undoCountsStay() {
        Edge.of(11, "COUNTS stay");
        Edge.run(Nets.line(3) + "push(0, 2) fail(0) heal(0) learn(1) tune(0, 2, 2) send(0)=2 link(0, 5)=1 undo() undo() link(0, 5)=1 link(1, 5)=1 undo() undo()=0 link(0, 5)=1 "
            + "link(1, 5)=1 count(7)=1 count(8)=1 way(-1)=2 count(4)=1");
    }

    private static void undoNotRefused() {
        Edge.of(11, "that was not refused is undone");
        Edge.run(Nets.ROUND + "fail(0) fail(0)!NOT heal(1)!NOT tune(0, 0, 1)!OUTSIDE learn(5)!UNKNOWN fail(5)!UNKNOWN heal(-1)!UNKNOWN tune(5, 1, 1)!UNKNOWN count(11)=1 undo()=0 "
            + "link(0, 4)=1 undo()!NOT");
        // What is no change of the net takes no place among them.
        Edge.run(Nets.ROUND + "fail(0) push(0, 1) trace(0) protect(1) send(1)=1 write(110)=1 erase()=1 adopt()=0 untrace()=1 clear()=0 undo()=0 link(0, 4)=1 count(6)=1 count(7)=1");
    }

    private static void seen() {
        Edge.of(12, "LINKS that a NODE has SEEN. UNKNOWN.");
        Edge.runs("seen(@)!UNKNOWN", "-1", "2", "LEAST", "MOST");
        Edge.runs(Nets.RICH + "seen(@)!UNKNOWN", NO_NODE);
        Edge.run("seen(0)?0 seen(1)?0");
        Edge.run(Nets.links(14) + "seen(0)?16383 seen(5)?16383 seen(6)!UNKNOWN fail(0) fail(13) learn(5) seen(5)?8190 seen(4)?16383");
    }

    private static void nextNone() {
        Edge.of(13, "NONE: also u is w. UNKNOWN");
        Edge.runs("next(@)!UNKNOWN", "-1, 0, 0", "2, 0, 0", "0, -1, 0", "0, 2, 1", "LEAST, 0, 0", "0, MOST, 0", "2, 2, 0");
        Edge.runs(Nets.RICH + "next(@)!UNKNOWN", "-1, 0, 0", "5, 0, 0", "0, -1, 1", "0, 5, 1");
        Edge.runs(Nets.ROUND + "next(@)?NONE", "0, 0, 0", "0, 0, 1", "4, 4, 0", "4, 4, 1");
        Edge.run(Nets.line(2) + "next(0, 1, 0)?1 next(1, 0, 1)?0 fail(0) next(0, 1, 0)?1 learn(0) next(0, 1, 0)?NONE next(1, 0, 0)?0 heal(0) next(0, 1, 1)?NONE");
    }

    private static void nextOutside() {
        Edge.of(13, "UNKNOWN; OUTSIDE.");
        Edge.runs(Nets.ROUND + "next(@)!OUTSIDE", "0, 1, -1", "0, 1, 2", "0, 0, 2", "0, 0, -1", "0, 1, LEAST", "0, 1, MOST");
        Edge.runs(Nets.ROUND + "next(@)!UNKNOWN", "5, 1, 2", "0, 5, -1");
        Edge.run(Nets.ROUND + "next(0, 4, 0)?1 next(0, 4, 1)?4 next(0, 4, 2)!OUTSIDE next(4, 0, 0)?3 next(4, 0, 1)?0");
    }

    private static void farNone() {
        Edge.of(14, "NONE. UNKNOWN");
        Edge.runs("far(@)!UNKNOWN", "-1, 0, 0", "2, 0, 0", "0, -1, 0", "0, 2, 1", "LEAST, 0, 0", "0, MOST, 0", "2, 2, 0");
        Edge.runs(Nets.RICH + "far(@)!UNKNOWN", "-1, 0, 0", "5, 0, 0", "0, -1, 1", "0, 5, 1");
        Edge.runs(Nets.ROUND + "far(@)?0", "0, 0, 0", "0, 0, 1", "4, 4, 0", "4, 4, 1");
        Edge.run(Nets.line(2) + "far(0, 1, 0)?1 fail(0) far(0, 1, 0)?1 learn(0) far(0, 1, 0)?NONE far(0, 0, 0)?0 far(1, 0, 0)?1 heal(0) far(0, 1, 1)?NONE");
    }

    private static void farOutside() {
        Edge.of(14, "UNKNOWN; OUTSIDE.");
        Edge.runs(Nets.ROUND + "far(@)!OUTSIDE", "0, 1, -1", "0, 1, 2", "0, 0, 2", "0, 0, -1", "0, 1, LEAST", "0, 1, MOST");
        Edge.runs(Nets.ROUND + "far(@)!UNKNOWN", "5, 1, 2", "0, 5, -1");
        Edge.run(Nets.ROUND + "far(0, 4, 0)?4 far(0, 4, 1)?1 far(0, 4, 2)!OUTSIDE far(2, 0, 0)?2 far(2, 0, 1)?18 tune(0, 9, 9) tune(1, 9, 9) far(2, 0, 0)?11");
    }

    private static void spaceToo() {
        Edge.of(15, "NODES w to which the WALK from u does not go over a LINK, u too (which 0); NODES from which the WALK to u, all going by what u has SEEN, does not, u too (1)");
        Edge.run(Nets.line(2) + "space(0, 0, 0)?1 space(0, 0, 1)?1 space(1, 0, 0)?2 space(1, 0, 1)?2");
        Edge.run(Nets.line(3) + "space(0, 0, 0)?1 space(0, 1, 0)?3 space(1, 0, 0)?6 space(1, 1, 1)?3 space(2, 0, 1)?6 space(2, 1, 1)?4");
        // From 0 the way to 2 is over 1, from 2 to 0 over 1 too; from 3 to 1 and back it is over 0.
        Edge.run(Nets.cycle(4) + "space(0, 0, 0)?9 space(0, 0, 1)?9 space(0, 3, 0)?7 space(0, 3, 1)?7 space(3, 3, 0)?12 space(3, 2, 0)?11 space(3, 2, 1)?11");
        // There and back are not over the same nodes: 0 1 5 3 and 3 4 2 0.
        Edge.run("'nodes6;link0 1 1 1;link1 5 1 1;link5 3 1 1;link0 2 1 1;link2 4 1 1;link4 3 1 1' tell()=7 space(0, 0, 0)?21 space(0, 0, 1)?29 space(0, 5, 0)?63 space(0, 5, 1)?55");
        Edge.run(Nets.ROUND + "space(0, 4, 0)?31 tune(4, 3, 1) space(0, 4, 0)?15 space(0, 4, 1)?15 space(0, 3, 0)?31");
    }

    private static void spaceNone() {
        Edge.of(15, "none to or from which there is no WALK");
        Edge.run(Nets.line(3) + "fail(1) space(0, 0, 0)?1 space(0, 1, 0)?3 learn(0) space(0, 0, 0)?1 space(0, 1, 0)?3 space(0, 1, 1)?3 fail(0) learn(0) space(0, 1, 0)?1 space(0, 0, 1)?1 "
            + "learn(2) space(2, 0, 0)?4 space(2, 1, 1)?4 space(1, 1, 0)?3");
        Edge.run("'nodes4;link0 1 1 1;link2 3 1 1' tell()=3 space(0, 1, 0)?3 space(0, 1, 1)?3 space(0, 0, 0)?1 space(3, 0, 0)?12 space(3, 0, 1)?12");
    }

    private static void spaceOutside() {
        Edge.of(15, "UNKNOWN; OUTSIDE.");
        Edge.runs("space(@)!UNKNOWN", "0, 0, 0", "-1, 0, 0", "0, -1, 1", "2, 0, 2");
        Edge.runs(Nets.ROUND + "space(@)!UNKNOWN", "-1, 0, 0", "5, 0, 0", "0, -1, 0", "0, 5, 1", "5, 5, 2", "LEAST, 0, 0", "0, MOST, 0", "0, 32, 0", "0, 5, 2", "-1, 0, -1");
        Edge.runs(Nets.ROUND + "space(@)!OUTSIDE", "0, 0, -1", "0, 0, 2", "4, 4, 2", "0, 0, LEAST", "0, 0, MOST");
        Edge.runs(Nets.RICH + "space(@)!OUTSIDE", "0, 0, -1", "0, 0, 2");
        Edge.run(Nets.ROUND + "space(4, 4, 0)?31 space(4, 4, 1)?31 space(4, 4, 2)!OUTSIDE");
    }

    private static void rings() {
        Edge.of(16, "RINGS of w. UNKNOWN.");
        Edge.runs("rings(@)!UNKNOWN", "-1", "2", "LEAST", "MOST");
        Edge.runs(Nets.RICH + "rings(@)!UNKNOWN", NO_NODE);
        Edge.run("rings(0)?0 rings(1)?0");
        Edge.run(Nets.ROUND_OF_SEVEN + "rings(7)?127 rings(8)!UNKNOWN");
        Edge.run(Nets.ROUND + "fail(1) learn(1) rings(2)?3 rings(3)?3 rings(4)?3 rings(0)?0 rings(1)?0");
    }

    private static void safe() {
        Edge.of(17, "1 there would be no RINGS of any NODE behind learn() of a NODE, 0. UNKNOWN.");
        Edge.runs("safe(@)!UNKNOWN", "-1", "2", "LEAST", "MOST");
        Edge.runs(Nets.RICH + "safe(@)!UNKNOWN", NO_NODE);
        Edge.run("safe(0)?1 safe(1)?1");
        Edge.run(Nets.ROUND + "fail(1) safe(0)?1 safe(1)?0 safe(2)?0 safe(3)?0 safe(4)?1 learn(0)=1 safe(0)?1 safe(1)?1 safe(2)?0");
    }

    private static void safeOfAny() {
        Edge.of(17, "no RINGS of any NODE");
        // Whoever learns leaves the RINGS of 7, but is of those of another NODE then.
        Edge.run(Nets.ROUND_OF_SEVEN + "safe(7)?0 safe(0)?0 safe(6)?0 rings(7)=127 rings(5)=0 seen(0)=16191 learn(0) rings(7)=0 rings(5)=65");
        Edge.run(Nets.TRIANGLE + "fail(1) learn(0) heal(1) safe(0)?1 safe(1)?1 fail(2) safe(1)?0 learn(1) safe(1)?0 safe(2)?0 safe(0)?1 heal(2) safe(1)?1");
    }

    private static void orderPlaces() {
        Edge.of(18, "how many NODES it has (k NONE), the k-th of them (0 on; NONE: it has not so many). OUTSIDE: k below -1");
        Edge.runs("order(@)!OUTSIDE", "-2", "-3", "LEAST");
        Edge.runs("order(@)?NONE", "0", "1", "MOST");
        Edge.run("order(-1)?0");
        Edge.runs(Nets.RICH + "order(@)!OUTSIDE", "-2", "LEAST");
        Edge.run(Nets.line(8) + "fail(6) order(-2)!OUTSIDE order(-1)?8 order(0)?0 order(6)?6 order(7)?7 order(8)?NONE order(MOST)?NONE learn(0) order(-1)?7 order(0)?1 order(6)?7 order(7)?NONE");
        Edge.run(Nets.line(2) + "fail(0) order(-1)?2 order(1)?1 order(2)?NONE learn(0) order(-1)?1 order(0)?1 order(1)?NONE learn(1) order(-1)?0 order(0)?NONE");
    }

    private static void orderNot() {
        Edge.of(18, "NOT: there is none.");
        Edge.runs(Nets.ROUND + "fail(1) learn(1) learn(2) order(@)!NOT", "-1", "0", "1", "8", "MOST");
        Edge.runs(Nets.ROUND + "fail(1) learn(1) learn(2) order(@)!OUTSIDE", "-2", "LEAST");
        Edge.run(Nets.ROUND_OF_SEVEN + "order(-1)!NOT order(0)!NOT order(-2)!OUTSIDE learn(0) learn(1) learn(2) learn(3) learn(4) learn(5) order(-1)?1 order(0)?6 order(1)?NONE");
    }
}
