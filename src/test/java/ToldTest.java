/** Promises 2 to 6: the text, its first fault, what telling it does, and the links told. */
public final class ToldTest {
    public static void main(String[] args) {
        write();
        erase();
        faultOfNodes();
        faultOfLinks();
        faultOfClauses();
        faultOfFifteenthLink();
        faultByWhatStands();
        tell();
        tellNodesForgets();
        tellLinkKeeps();
        tellDownLink();
        tellMidway();
        link();
        Due.end();
    }

    private static void fault(String text, int place) {
        HeaderWays x = new HeaderWays();
        Due.write(x, text);
        Due.is("fault() of <" + text + ">", x.fault(), place);
        Due.is("fault() once more of <" + text + ">", x.fault(), place);
        Due.is("count(12) of <" + text + ">", x.count(12), text.length());
        if (place == HeaderWays.NONE) {
            Due.isTrue("tell() of <" + text + ">", x.tell() >= 1);
        } else {
            Due.is("tell() of <" + text + ">", x.tell(), HeaderWays.NOT);
            Due.is("count(12) behind it of <" + text + ">", x.count(12), text.length());
        }
    }

    private static void write() {
        HeaderWays x = new HeaderWays();
        Due.is("write(-1)", x.write(-1), HeaderWays.OUTSIDE);
        Due.is("write(256)", x.write(256), HeaderWays.OUTSIDE);
        Due.is("write(least)", x.write(Integer.MIN_VALUE), HeaderWays.OUTSIDE);
        Due.is("write(most)", x.write(Integer.MAX_VALUE), HeaderWays.OUTSIDE);
        Due.is("write(0)", x.write(0), 1);
        Due.is("write(255)", x.write(255), 2);
        for (int i = 3; i <= 200; i++) {
            Due.is("write(32)", x.write(32), i);
        }
        Due.is("write(32) the 201st", x.write(32), HeaderWays.FULL);
        Due.is("write(256) when full", x.write(256), HeaderWays.OUTSIDE);
        Due.is("count(12)", x.count(12), 200);
        Due.is("fault()", x.fault(), 0);
    }

    private static void erase() {
        HeaderWays x = new HeaderWays();
        Due.is("erase() of none", x.erase(), 0);
        Due.write(x, "nodes 3");
        Due.is("erase()", x.erase(), 7);
        Due.is("count(12)", x.count(12), 0);
        Due.is("fault()", x.fault(), 0);
        Due.is("count(0)", x.count(0), 2);
        Due.is("write(110)", x.write(110), 1);
        Due.is("erase() of one", x.erase(), 1);
    }

    private static void faultOfNodes() {
        fault("", 0);
        fault("   ", 3);
        fault("nodes 2", HeaderWays.NONE);
        fault("nodes 8", HeaderWays.NONE);
        fault("nodes2", HeaderWays.NONE);
        fault("  nodes   2  ", HeaderWays.NONE);
        fault("nodes 1", 6);
        fault("nodes 0", 6);
        fault("nodes 9", 6);
        fault("nodes 02", 6);
        fault("nodes 22", 6);
        fault("nodes", 5);
        fault("nodes  ", 7);
        fault("Nodes 2", 0);
        fault("node 2", 0);
        fault("nodess 2", 0);
        fault(" nodesx 2", 1);
        fault("nod es 2", 0);
        fault("nodes x", 6);
        fault("nodes -2", 6);
        fault("nodes ;", 6);
        fault("nodes/", 5);
        fault("nodes:", 5);
        fault("nodes\t2", 5);
        fault("nodes 2\n", 7);
        fault("nodes 2" + (char) 255, 7);
        fault((char) 228 + "nodes 2", 0);
        fault("nodes 2.", 7);
        fault("nodes 2 3", 8);
        fault("nodes 2x", 7);
        fault("2", 0);
        fault("{", 0);
        fault("`", 0);
    }

    private static void faultOfLinks() {
        fault("link 0 1 1 1", HeaderWays.NONE);
        fault("link 1 0 9 9", HeaderWays.NONE);
        fault("link0 1 1 1", HeaderWays.NONE);
        fault(" link  0  1  1  1 ", HeaderWays.NONE);
        fault("link 01 1 1", 5);
        fault("link 0 11 1", 7);
        fault("link 0 1 11", 9);
        fault("link 0 1 1 11", 11);
        fault("link 0 2 1 1", 7);
        fault("link 2 0 1 1", 5);
        fault("link 0 0 1 1", 7);
        fault("link 1 1 1 1", 7);
        fault("link 0 1 0 1", 9);
        fault("link 0 1 1 0", 11);
        fault("link", 4);
        fault("link 0", 6);
        fault("link 0 ", 7);
        fault("link 0 1", 8);
        fault("link 0 1 1", 10);
        fault("link 0 1 1;", 10);
        fault("link 0 1 1 1 1", 13);
        fault("link 0 1 1 1;", 13);
        fault("link 0,1 1 1", 6);
        fault("link x", 5);
        fault("links 0 1 1 1", 0);
        fault("lin", 0);
        fault("linknodes", 0);
    }

    private static void faultOfClauses() {
        fault(";", 0);
        fault("nodes 2;", 8);
        fault("nodes 2 ; ", 10);
        fault("nodes 2;;nodes 2", 8);
        fault("nodes 2;nodes 3", HeaderWays.NONE);
        fault("nodes 2 ; nodes 3", HeaderWays.NONE);
        fault("nodes 2 nodes 3", 8);
        fault("nodes 2;nodes 9", 14);
        fault("nodes 3;link 0 2 1 1", HeaderWays.NONE);
        fault("nodes 3;link 0 3 1 1", 15);
        fault("nodes 3;nodes 2;link 0 2 1 1", 23);
        fault("nodes 8;link 7 6 1 1", HeaderWays.NONE);
        fault("nodes 8;link 8 6 1 1", 13);
        fault("nodes 9;link 9 6 0 1", 6);
        String most = "nodes2" + ";nodes2".repeat(23);
        fault(most, HeaderWays.NONE);
        fault(most + "  ", HeaderWays.NONE);
        fault(most + ";", most.length());
        fault(most + " ;nodes2", most.length() + 1);
        fault(most + " 7", most.length() + 1);
        fault("nodes2" + ";nodes2".repeat(22) + ";", most.length() - 6);
    }

    // 14 links among 0 .. 5: all pairs but 4 5.
    private static String fourteenLinks() {
        StringBuilder text = new StringBuilder("nodes6");
        for (int u = 0; u < 5; u++) {
            for (int v = u + 1; v < 6 && u + v < 9; v++) {
                text.append(";link").append(v).append(' ').append(u).append(" 1 2");
            }
        }
        return text.toString();
    }

    private static void faultOfFifteenthLink() {
        String most = fourteenLinks();
        fault(most, HeaderWays.NONE);
        fault(most + ";link4 5 1 1", most.length() + 7);
        fault(most + ";link5 4 0 1", most.length() + 7);
        fault(most + ";link0 5 1 1", HeaderWays.NONE);
        fault(most + ";nodes3", HeaderWays.NONE);
        HeaderWays x = Due.told(most);
        Due.is("count(1)", x.count(1), 14);
        Due.is("count(2)", x.count(2), 14);
        Due.is("seen(5)", x.seen(5), (1 << 14) - 1);
        Due.is("link(13, 0)", x.link(13, 0), 3);
        Due.is("link(13, 1)", x.link(13, 1), 5);
        Due.is("link(14, 0)", x.link(14, 0), HeaderWays.UNKNOWN);
        Due.write(x, "link 5 4 1 1");
        Due.is("fault() by the links that are there", x.fault(), 7);
        Due.is("erase()", x.erase(), 12);
        Due.write(x, "link 5 3 1 1");
        Due.is("fault() of a link that is there", x.fault(), HeaderWays.NONE);
        Due.is("erase()", x.erase(), 12);
        Due.tell(x, "nodes 6;link 5 4 1 1", 2);
        Due.is("count(1) behind it", x.count(1), 1);
        Due.is("link(0, 0)", x.link(0, 0), 4);
        Due.is("seen(0)", x.seen(0), 1);
        Due.tell(x, "link 0 1 1 1;link 0 2 1 1", 2);
        Due.tell(x, "link 0 3 1 1", 1);
        Due.is("count(1) of four", x.count(1), 4);
    }

    private static void faultByWhatStands() {
        HeaderWays x = Due.told("nodes 5");
        Due.write(x, "link 4 3 1 1");
        Due.is("fault() with five nodes", x.fault(), HeaderWays.NONE);
        x.erase();
        Due.write(x, "link 4 5 1 1");
        Due.is("fault() of node 5", x.fault(), 7);
        x.erase();
        Due.tell(x, "nodes 2", 1);
        Due.write(x, "link 4 3 1 1");
        Due.is("fault() with two nodes", x.fault(), 5);
        x.erase();
        Due.write(x, "nodes 3");
        Due.is("fault() does nothing", x.fault(), HeaderWays.NONE);
        Due.is("count(0)", x.count(0), 2);
    }

    private static void tell() {
        HeaderWays x = new HeaderWays();
        Due.is("tell() of nothing", x.tell(), HeaderWays.NOT);
        Due.write(x, "nodes 4;link 3 1 2 3;link 0 1 4 5;link 1 3 6 7");
        Due.is("tell()", x.tell(), 4);
        Due.is("count(12)", x.count(12), 0);
        Due.is("fault()", x.fault(), 0);
        Due.is("tell() once more", x.tell(), HeaderWays.NOT);
        Due.is("count(0)", x.count(0), 4);
        Due.is("count(1)", x.count(1), 2);
        Due.is("link(0, 0)", x.link(0, 0), 1);
        Due.is("link(0, 1)", x.link(0, 1), 3);
        Due.is("link(0, 2)", x.link(0, 2), 6);
        Due.is("link(0, 3)", x.link(0, 3), 7);
        Due.is("link(1, 2)", x.link(1, 2), 4);
        for (int node = 0; node < 4; node++) {
            Due.is("seen(" + node + ")", x.seen(node), 3);
        }
        Due.write(x, "nodes 5;nodes 1");
        Due.is("tell() with a fault", x.tell(), HeaderWays.NOT);
        Due.is("count(0) behind it", x.count(0), 4);
        Due.is("count(1) behind it", x.count(1), 2);
        Due.is("count(12) behind it", x.count(12), 15);
        Due.is("erase()", x.erase(), 15);
        Due.tell(x, "nodes 5", 1);
        Due.is("count(0) behind nodes", x.count(0), 5);
        Due.is("count(1) behind nodes", x.count(1), 0);
        Due.is("count(2) behind nodes", x.count(2), 0);
        Due.is("count(3) behind nodes", x.count(3), 0);
        Due.is("seen(3) behind nodes", x.seen(3), 0);
    }

    private static HeaderWays lived(String text) {
        HeaderWays x = Due.told(text);
        Due.is("push(0, 1)", x.push(0, 1), 1);
        Due.is("trace(0)", x.trace(0), 1);
        Due.is("trace(1)", x.trace(1), 2);
        Due.is("protect(1)", x.protect(1), 0);
        Due.is("send(0)", x.send(0), 1);
        Due.is("tune(0, 5, 5)", x.tune(0, 5, 5), 1);
        Due.is("link(0, 5)", x.link(0, 5), 1);
        Due.is("count(11)", x.count(11), 1);
        return x;
    }

    private static void tellNodesForgets() {
        HeaderWays x = lived("link 0 1 1 1");
        Due.tell(x, "nodes 2", 1);
        for (int what = 1; what <= 13; what++) {
            Due.is("count(" + what + ") behind nodes", x.count(what), 0);
        }
        Due.is("way(-1) behind nodes", x.way(-1), HeaderWays.NONE);
        Due.is("undo() behind nodes", x.undo(), HeaderWays.NOT);
        Due.is("brief(-1) behind nodes", x.brief(-1), HeaderWays.NOT);
        Due.is("segment(0, 0) behind nodes", x.segment(0, 0), HeaderWays.UNKNOWN);
    }

    private static void tellLinkKeeps() {
        HeaderWays x = lived("nodes 3;link 0 1 1 1");
        Due.tell(x, "link 2 1 3 4", 1);
        Due.is("count(1)", x.count(1), 2);
        Due.is("count(4)", x.count(4), 1);
        Due.is("count(5)", x.count(5), 2);
        Due.is("count(6)", x.count(6), 1);
        Due.is("count(7)", x.count(7), 0);
        Due.is("count(8)", x.count(8), 0);
        Due.is("count(11)", x.count(11), 0);
        Due.is("undo()", x.undo(), HeaderWays.NOT);
        Due.is("way(-1)", x.way(-1), HeaderWays.NONE);
        Due.is("way(0)", x.way(0), HeaderWays.NONE);
        Due.is("link(0, 5)", x.link(0, 5), 0);
        Due.is("link(0, 2)", x.link(0, 2), 5);
        Due.is("seen(0)", x.seen(0), 3);
        Due.is("send(0)", x.send(0), 1);
        Due.is("count(7) anew", x.count(7), 1);
        Due.is("count(8) anew", x.count(8), 1);
    }

    private static void tellDownLink() {
        HeaderWays x = Due.told("nodes 3;link 0 1 1 1;link 1 2 1 1");
        Due.is("fail(0)", x.fail(0), 1);
        Due.is("learn(1)", x.learn(1), 1);
        Due.tell(x, "link 1 0 7 8;link 0 2 1 1", 2);
        Due.is("link(0, 2)", x.link(0, 2), 7);
        Due.is("link(0, 3)", x.link(0, 3), 8);
        Due.is("link(0, 4)", x.link(0, 4), 0);
        Due.is("link(2, 4)", x.link(2, 4), 1);
        Due.is("seen(0)", x.seen(0), 7);
        Due.is("seen(1)", x.seen(1), 6);
        Due.is("seen(2)", x.seen(2), 7);
        Due.is("count(2)", x.count(2), 2);
        Due.is("count(3)", x.count(3), 2);
    }

    private static void tellMidway() {
        HeaderWays x = Due.told("nodes 8;link 6 7 1 1;nodes 3;link 0 2 5 6;link 2 0 3 4");
        Due.is("count(0)", x.count(0), 3);
        Due.is("count(1)", x.count(1), 1);
        Due.is("link(0, 1)", x.link(0, 1), 2);
        Due.is("link(0, 2)", x.link(0, 2), 3);
        Due.is("link(0, 3)", x.link(0, 3), 4);
        Due.is("seen(2)", x.seen(2), 1);
        Due.is("seen(3)", x.seen(3), HeaderWays.UNKNOWN);
        Due.tell(x, "nodes 8", 1);
        Due.is("seen(7)", x.seen(7), 0);
        Due.is("seen(2) of more nodes", x.seen(2), 0);
    }

    private static void link() {
        HeaderWays x = Due.told("nodes 3;link 2 0 7 8");
        int[] due = {0, 2, 7, 8, 1, 0};
        for (int what = 0; what < due.length; what++) {
            Due.is("link(0, " + what + ")", x.link(0, what), due[what]);
        }
        Due.is("link(0, -1)", x.link(0, -1), HeaderWays.OUTSIDE);
        Due.is("link(0, 6)", x.link(0, 6), HeaderWays.OUTSIDE);
        Due.is("link(1, 0)", x.link(1, 0), HeaderWays.UNKNOWN);
        Due.is("link(-1, 0)", x.link(-1, 0), HeaderWays.UNKNOWN);
        Due.is("link(1, 6)", x.link(1, 6), HeaderWays.UNKNOWN);
        Due.is("link(most, least)", x.link(Integer.MAX_VALUE, Integer.MIN_VALUE), HeaderWays.UNKNOWN);
        x.fail(0);
        Due.is("link(0, 4) down", x.link(0, 4), 0);
        x.heal(0);
        x.push(0, 2);
        Due.is("send(0)", x.send(0), 2);
        Due.is("link(0, 5)", x.link(0, 5), 1);
        x.learn(0);
        x.undo();
        Due.is("link(0, 5) behind undo", x.link(0, 5), 1);
    }
}
