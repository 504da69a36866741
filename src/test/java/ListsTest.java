/** Promises 19 to 26: the list of segments, repairs, the trace and its short list. */
public final class ListsTest {
    private static final String ROUND = "nodes5;link0 1 1 9;link1 2 1 9;link2 3 1 9;link3 4 1 9;link0 4 9 1";
    // Over 1 and 2 the COSTS are low, over 3 and 4 the DELAYS.
    private static final String LADDER =
        "nodes6;link0 1 1 5;link1 2 1 5;link2 5 1 5;link0 3 4 1;link3 4 4 1;link4 5 4 1;link1 4 2 2";
    private static final int LEAST = Integer.MIN_VALUE, MOST = Integer.MAX_VALUE;

    public static void main(String[] args) {
        push();
        clear();
        segment();
        repair();
        repairKinds();
        repairBySeen();
        trace();
        traceAll();
        untrace();
        brief();
        briefOfLikeOnes();
        briefBySeen();
        adopt();
        adoptIsACopy();
        Due.end();
    }

    private static void push() {
        HeaderWays x = Due.told(ROUND);
        Due.is("push(-1, 0)", x.push(-1, 0), HeaderWays.OUTSIDE);
        Due.is("push(3, 0)", x.push(3, 0), HeaderWays.OUTSIDE);
        Due.is("push(3, 9)", x.push(3, 9), HeaderWays.OUTSIDE);
        Due.is("push(0, 5)", x.push(0, 5), HeaderWays.UNKNOWN);
        Due.is("push(1, -1)", x.push(1, -1), HeaderWays.UNKNOWN);
        Due.is("push(2, 5)", x.push(2, 5), HeaderWays.UNKNOWN);
        Due.is("push(2, least)", x.push(2, LEAST), HeaderWays.UNKNOWN);
        Due.is("count(4)", x.count(4), 0);
        for (int size = 1; size <= 8; size++) {
            Due.is("push() to " + size, x.push(size % 3, size % 5), size);
        }
        Due.is("push(0, 0) when full", x.push(0, 0), HeaderWays.FULL);
        Due.is("push(0, 5) when full", x.push(0, 5), HeaderWays.UNKNOWN);
        Due.is("push(3, 0) when full", x.push(3, 0), HeaderWays.OUTSIDE);
        Due.is("count(4)", x.count(4), 8);
        HeaderWays y = Due.told("nodes 2;link 0 1 1 1");
        Due.is("push(2, 1) is no link", y.push(2, 1), HeaderWays.UNKNOWN);
        Due.is("push(0, 1) is a node", y.push(0, 1), 1);
        Due.is("push(2, 0) of a link", y.push(2, 0), 2);
        y.fail(0);
        Due.is("push(2, 0) of a link that is down", y.push(2, 0), 3);
    }

    private static void clear() {
        HeaderWays x = Due.told(ROUND);
        Due.is("clear() of none", x.clear(), 0);
        x.push(0, 1);
        x.push(2, 4);
        Due.is("clear()", x.clear(), 2);
        Due.is("count(4)", x.count(4), 0);
        Due.is("segment(0, 0)", x.segment(0, 0), HeaderWays.UNKNOWN);
        Due.is("push(1, 3)", x.push(1, 3), 1);
        Due.is("segment(0, 1)", x.segment(0, 1), 3);
    }

    private static void segment() {
        HeaderWays x = Due.told(ROUND);
        x.push(1, 3);
        x.push(2, 4);
        Due.is("segment(0, 0)", x.segment(0, 0), 1);
        Due.is("segment(0, 1)", x.segment(0, 1), 3);
        Due.is("segment(1, 0)", x.segment(1, 0), 2);
        Due.is("segment(1, 1)", x.segment(1, 1), 4);
        Due.is("segment(2, 0)", x.segment(2, 0), HeaderWays.UNKNOWN);
        Due.is("segment(-1, 0)", x.segment(-1, 0), HeaderWays.UNKNOWN);
        Due.is("segment(2, 2)", x.segment(2, 2), HeaderWays.UNKNOWN);
        Due.is("segment(most, 0)", x.segment(MOST, 0), HeaderWays.UNKNOWN);
        Due.is("segment(0, 2)", x.segment(0, 2), HeaderWays.OUTSIDE);
        Due.is("segment(0, -1)", x.segment(0, -1), HeaderWays.OUTSIDE);
    }

    private static void repairs(HeaderWays x, int node, int link, int w, int... due) {
        String call = "repair(" + node + ", " + link + ", " + w + ", ";
        Due.is(call + "-1)", x.repair(node, link, w, -1), due.length);
        for (int k = 0; k < due.length; k++) {
            Due.is(call + k + ")", x.repair(node, link, w, k), due[k]);
        }
        Due.is(call + due.length + ")", x.repair(node, link, w, due.length), HeaderWays.NONE);
        Due.is(call + "most)", x.repair(node, link, w, MOST), HeaderWays.NONE);
    }

    private static void repair() {
        HeaderWays x = Due.told(ROUND);
        Due.is("repair(5, 0, 1, -1)", x.repair(5, 0, 1, -1), HeaderWays.UNKNOWN);
        Due.is("repair(0, 5, 1, -1)", x.repair(0, 5, 1, -1), HeaderWays.UNKNOWN);
        Due.is("repair(0, 0, 5, -1)", x.repair(0, 0, 5, -1), HeaderWays.UNKNOWN);
        Due.is("repair(-1, 0, 1, 0)", x.repair(-1, 0, 1, 0), HeaderWays.UNKNOWN);
        Due.is("repair(0, -1, 1, 0)", x.repair(0, -1, 1, 0), HeaderWays.UNKNOWN);
        Due.is("repair(0, 0, -1, 0)", x.repair(0, 0, -1, 0), HeaderWays.UNKNOWN);
        Due.is("repair(1, 0, 1, -2)", x.repair(1, 0, 1, -2), HeaderWays.UNKNOWN);
        Due.is("repair(0, 0, 1, -2)", x.repair(0, 0, 1, -2), HeaderWays.OUTSIDE);
        Due.is("repair(0, 0, 1, least)", x.repair(0, 0, 1, LEAST), HeaderWays.OUTSIDE);
        repairs(x, 1, 1, 2, 0, 204, 2);
        repairs(x, 1, 1, 3, 0, 204, 3);
        repairs(x, 0, 0, 1, 204, 1);
        repairs(x, 0, 2, 1, 1);
        repairs(x, 0, 4, 4, 4);
        Due.is("count(4)", x.count(4), 0);
    }

    private static void repairKinds() {
        HeaderWays x = Due.told(ROUND);
        repairs(x, 0, 0, 4, 204);
        HeaderWays y = Due.told(LADDER);
        repairs(y, 0, 0, 1, 3, 4, 1);
        repairs(y, 0, 0, 2, 3, 4, 2);
    }

    private static void repairBySeen() {
        HeaderWays x = Due.told(ROUND);
        x.fail(0);
        repairs(x, 1, 1, 2, 0, 204, 2);
        x.learn(1);
        Due.is("repair(1, 1, 2, -1) of no walk", x.repair(1, 1, 2, -1), HeaderWays.NOT);
        Due.is("repair(1, 1, 2, 0) of no walk", x.repair(1, 1, 2, 0), HeaderWays.NOT);
        Due.is("repair(1, 1, 2, -2) of no walk", x.repair(1, 1, 2, -2), HeaderWays.OUTSIDE);
        repairs(x, 1, 0, 0, 0);
        repairs(x, 0, 0, 1, 204, 1);
        x.learn(0);
        repairs(x, 0, 0, 1, 1);
    }

    private static void trace() {
        HeaderWays x = Due.told(ROUND);
        Due.is("trace(-1)", x.trace(-1), HeaderWays.UNKNOWN);
        Due.is("trace(5)", x.trace(5), HeaderWays.UNKNOWN);
        Due.is("trace(most)", x.trace(MOST), HeaderWays.UNKNOWN);
        Due.is("trace(2)", x.trace(2), 1);
        Due.is("trace(2) once more", x.trace(2), HeaderWays.NOT);
        Due.is("trace(0) without a link", x.trace(0), HeaderWays.NOT);
        Due.is("trace(1)", x.trace(1), 2);
        Due.is("trace(3) has a link with the first alone", x.trace(3), HeaderWays.NOT);
        Due.is("trace(2) is of it", x.trace(2), HeaderWays.NOT);
        x.fail(0);
        x.learn(1);
        Due.is("trace(0) over a link that is down", x.trace(0), 3);
        Due.is("count(5)", x.count(5), 3);
    }

    private static void traceAll() {
        HeaderWays x = Due.told("nodes8;link0 1 1 1;link1 2 1 1;link2 3 1 1;link3 4 1 1;link4 5 1 1;link5 6 1 1;link6 7 1 1;link7 0 1 1");
        for (int node = 0; node < 8; node++) {
            Due.is("trace(" + node + ")", x.trace(node), node + 1);
        }
        Due.is("trace(0) of all", x.trace(0), HeaderWays.NOT);
        Due.is("trace(8) of all", x.trace(8), HeaderWays.UNKNOWN);
        briefs(x, 4, 7);
    }

    private static void untrace() {
        HeaderWays x = Due.told(ROUND);
        Due.is("untrace() of none", x.untrace(), 0);
        x.trace(0);
        x.trace(1);
        Due.is("untrace()", x.untrace(), 2);
        Due.is("count(5)", x.count(5), 0);
        Due.is("brief(-1)", x.brief(-1), HeaderWays.NOT);
        Due.is("trace(3)", x.trace(3), 1);
    }

    private static void traced(HeaderWays x, int... way) {
        x.untrace();
        for (int i = 0; i < way.length; i++) {
            Due.is("trace(" + way[i] + ")", x.trace(way[i]), i + 1);
        }
    }

    private static void briefs(HeaderWays x, int... due) {
        Due.is("brief(-1)", x.brief(-1), due.length);
        for (int k = 0; k < due.length; k++) {
            Due.is("brief(" + k + ")", x.brief(k), due[k]);
        }
        Due.is("brief(" + due.length + ")", x.brief(due.length), HeaderWays.NONE);
        Due.is("brief(most)", x.brief(MOST), HeaderWays.NONE);
    }

    private static void brief() {
        HeaderWays x = Due.told(LADDER);
        Due.is("brief(-2) without a node", x.brief(-2), HeaderWays.OUTSIDE);
        Due.is("brief(-1) without a node", x.brief(-1), HeaderWays.NOT);
        Due.is("brief(0) without a node", x.brief(0), HeaderWays.NOT);
        traced(x, 3);
        briefs(x);
        traced(x, 0, 1, 2, 5);
        briefs(x, 5);
        traced(x, 0, 3, 4, 5);
        briefs(x, 105);
        Due.is("brief(-2)", x.brief(-2), HeaderWays.OUTSIDE);
        Due.is("brief(least)", x.brief(LEAST), HeaderWays.OUTSIDE);
        traced(x, 0, 3, 4, 1, 2);
        briefs(x, 101, 2);
        HeaderWays y = Due.told(ROUND);
        y.tune(4, 9, 9);
        y.tune(0, 1, 1);
        y.tune(1, 1, 1);
        y.tune(2, 1, 1);
        y.tune(3, 1, 1);
        traced(y, 1, 0, 4, 3);
        briefs(y, 0, 204, 3);
    }

    // Of two lists of two the one that leads further first, of one place the lower kind.
    private static void briefOfLikeOnes() {
        HeaderWays x = Due.told("nodes 4;link 0 1 1 1;link 1 2 1 1;link 2 3 1 1;link 0 3 2 2");
        traced(x, 0, 1, 2, 3);
        briefs(x, 2, 3);
        traced(x, 0, 3);
        briefs(x, 3);
        traced(x, 3, 0, 1, 2);
        briefs(x, 0, 2);
        HeaderWays y = Due.told(LADDER);
        traced(y, 0, 3);
        briefs(y, 3);
        traced(y, 4, 1, 0);
        briefs(y, 0);
        traced(y, 4, 3, 0);
        briefs(y, 100);
    }

    private static void briefBySeen() {
        HeaderWays x = Due.told(ROUND);
        x.fail(0);
        x.learn(0);
        traced(x, 0, 1);
        Due.is("brief(-1) over a link not seen", x.brief(-1), HeaderWays.NOT);
        Due.is("brief(0) over a link not seen", x.brief(0), HeaderWays.NOT);
        Due.is("brief(-2) over a link not seen", x.brief(-2), HeaderWays.OUTSIDE);
        Due.is("adopt() over a link not seen", x.adopt(), HeaderWays.NOT);
        traced(x, 1, 0);
        briefs(x, 0);
        traced(x, 0, 4, 3);
        briefs(x, 3);
        x.heal(0);
        briefs(x, 3);
        x.learn(0);
        briefs(x, 103);
    }

    private static void adopt() {
        HeaderWays x = Due.told(LADDER);
        x.push(2, 1);
        x.push(2, 2);
        x.push(2, 3);
        Due.is("adopt() without a node", x.adopt(), HeaderWays.NOT);
        Due.is("count(4)", x.count(4), 3);
        traced(x, 0, 3, 4, 1, 2);
        Due.is("adopt()", x.adopt(), 2);
        Due.is("count(4) adopted", x.count(4), 2);
        Due.is("count(5) stays", x.count(5), 5);
        Due.is("segment(0, 0)", x.segment(0, 0), 1);
        Due.is("segment(0, 1)", x.segment(0, 1), 1);
        Due.is("segment(1, 0)", x.segment(1, 0), 0);
        Due.is("segment(1, 1)", x.segment(1, 1), 2);
        Due.is("segment(2, 0)", x.segment(2, 0), HeaderWays.UNKNOWN);
        Due.is("send(0)", x.send(0), 2);
        Due.is("way(-1)", x.way(-1), 4);
        traced(x, 4);
        Due.is("adopt() of one node", x.adopt(), 0);
        Due.is("count(4) of one node", x.count(4), 0);
        HeaderWays y = Due.told(ROUND);
        y.tune(4, 9, 9);
        traced(y, 0, 4);
        Due.is("adopt() over a link", y.adopt(), 1);
        Due.is("segment(0, 0) over a link", y.segment(0, 0), 1);
        y.tune(4, 9, 9);
        y.tune(0, 1, 1);
        y.tune(1, 1, 1);
        y.tune(2, 1, 1);
        y.tune(3, 1, 1);
        Due.is("adopt() over a link alone", y.adopt(), 1);
        Due.is("segment(0, 0) of a link", y.segment(0, 0), 2);
        Due.is("segment(0, 1) of a link", y.segment(0, 1), 4);
    }

    private static void adoptIsACopy() {
        HeaderWays x = Due.told(ROUND);
        traced(x, 0, 1, 2);
        Due.is("adopt()", x.adopt(), 1);
        Due.is("repair(0, 0, 1, 0)", x.repair(0, 0, 1, 0), 204);
        Due.is("segment(0, 0) stays", x.segment(0, 0), 0);
        Due.is("segment(0, 1) stays", x.segment(0, 1), 2);
        Due.is("push(0, 3)", x.push(0, 3), 2);
        Due.is("untrace()", x.untrace(), 3);
        Due.is("count(4) stays", x.count(4), 2);
    }
}
