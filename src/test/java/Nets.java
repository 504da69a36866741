/** Nets and states that the tests of edges begin with, each as a run of calls (see Edge). */
final class Nets {
    // By COST it goes round over 1, 2, 3; only the DELAY is for the link of 0 and 4.
    static final String ROUND =
        "'nodes5;link0 1 1 9;link1 2 1 9;link2 3 1 9;link3 4 1 9;link0 4 9 1' tell()=6 ";

    static final String TRIANGLE = "'nodes3;link0 1 1 1;link0 2 1 1;link1 2 1 1' tell()=4 ";

    // Something of each kind is there: what is down, seen, tuned, listed, traced, sent, mended, written.
    static final String RICH = ROUND
        + "send(4) protect(1) fail(1) push(0, 3) push(2, 4) push(1, 2) send(0)=-13 count(13)=1 "
        + "learn(2) tune(3, 2, 3) trace(0) trace(4) 'nodes 3;lin' ";

    // As much of each kind is there as can be: nodes, segments, nodes traced, changes, letters.
    static final String FILLED = line(8)
        + "push(0, 1) push(1, 2) push(2, 3) ".repeat(2) + "push(0, 7) push(1, 0)=8 "
        + "trace(0) trace(1) trace(2) trace(3) trace(4) trace(5) trace(6) trace(7)=8 "
        + "fail(0) fail(1) learn(3) tune(2, 9, 9) heal(0) learn(4) tune(6, 1, 2) fail(5) "
        + "'nodes 3" + " ".repeat(192) + ";' count(12)=200 count(11)=8 ";

    // Each node round 7 holds that it has to go on to the next one, the last one to the first.
    static final String ROUND_OF_SEVEN = wheel() + missing(0, 7, 6) + missing(1, 8, 0) + missing(2, 9, 1)
        + missing(3, 10, 2) + missing(4, 11, 3) + missing(5, 12, 4) + missing(6, 13, 5);

    private Nets() {
    }

    private static String net(int nodes, String links, int many) {
        return "'nodes" + nodes + links + "' tell()=" + (many + 1) + " ";
    }

    private static String link(int u, int v) {
        return ";link" + u + " " + v + " 1 1";
    }

    /** Nodes one behind the other, link k between k and k + 1. */
    static String line(int nodes) {
        StringBuilder links = new StringBuilder();
        for (int u = 0; u + 1 < nodes; u++) {
            links.append(link(u, u + 1));
        }
        return net(nodes, links.toString(), nodes - 1);
    }

    /** As a line, the last link between 0 and the last node; of two nodes there is just one link. */
    static String cycle(int nodes) {
        if (nodes == 2) {
            return line(2);
        }
        String line = line(nodes);
        return line.replace("' tell()=" + nodes, link(0, nodes - 1) + "' tell()=" + (nodes + 1));
    }

    /** Of 6 nodes as many links as are asked for: 14 are all but the one of 4 and 5. */
    static String links(int many) {
        StringBuilder links = new StringBuilder();
        int told = 0;
        for (int u = 0; u < 5; u++) {
            for (int v = u + 1; v < 6 && told < many; v++) {
                links.append(link(u, v));
                told++;
            }
        }
        return net(6, links.toString(), many);
    }

    /** A hub 7 with a link to each other node (7 to 13), and these in a round (0 to 6). */
    static String wheel() {
        StringBuilder links = new StringBuilder();
        for (int u = 0; u < 7; u++) {
            links.append(link(Math.min(u, (u + 1) % 7), Math.max(u, (u + 1) % 7)));
        }
        for (int u = 0; u < 7; u++) {
            links.append(link(u, 7));
        }
        return net(8, links.toString(), 14);
    }

    /** A node has seen all links but two. */
    private static String missing(int node, int one, int other) {
        return "fail(" + one + ") fail(" + other + ") learn(" + node + ") heal(" + one + ") heal(" + other + ") ";
    }

    /** THE LIST of these segments, each as 100 times its kind and its node or link. */
    static String list(int... segments) {
        StringBuilder calls = new StringBuilder("clear() ");
        for (int i = 0; i < segments.length; i++) {
            calls.append("push(").append(segments[i] / 100).append(", ").append(segments[i] % 100).append(")=");
            calls.append(i + 1).append(' ');
        }
        return calls.toString();
    }

    /** THE TRACE of these nodes. */
    static String trace(int... nodes) {
        StringBuilder calls = new StringBuilder("untrace() ");
        for (int i = 0; i < nodes.length; i++) {
            calls.append("trace(").append(nodes[i]).append(")=").append(i + 1).append(' ');
        }
        return calls.toString();
    }

    /** The way of the letter sent last. */
    static String way(int... nodes) {
        StringBuilder calls = new StringBuilder("way(-1)=" + (nodes.length - 1) + " ");
        for (int k = 0; k < nodes.length; k++) {
            calls.append("way(").append(k).append(")=").append(nodes[k]).append(' ');
        }
        return calls.append("way(").append(nodes.length).append(")=NONE ").toString();
    }

    /** What a call tells of a row: how many, each of them, and none behind them; "brief(" is told so. */
    static String row(String call, int... due) {
        StringBuilder calls = new StringBuilder(call + "-1)?" + due.length + " ");
        for (int k = 0; k < due.length; k++) {
            calls.append(call).append(k).append(")=").append(due[k]).append(' ');
        }
        calls.append(call).append(due.length).append(")?NONE ");
        return calls.append(call).append("MOST)=NONE ").toString();
    }
}
