/** Promises 27 to 30: letters that are sent, mended and lost, their ways, and the counts. */
public final class LettersTest {
    private static final String ROUND = "nodes5;link0 1 1 9;link1 2 1 9;link2 3 1 9;link3 4 1 9;link0 4 9 1";
    private static final String LINE = "nodes 4;link 0 1 1 1;link 1 2 1 1;link 2 3 1 1";
    private static final int LEAST = Integer.MIN_VALUE, MOST = Integer.MAX_VALUE;

    public static void main(String[] args) {
        protect();
        sendRefused();
        sendByKinds();
        sendTakesOff();
        sendKeepsTheList();
        lostWithoutNext();
        lostAtNoEnd();
        lostOverDown();
        lostBehindTwentyHops();
        thereBehindTwentyHops();
        mended();
        mendedOverLink();
        mendedByCost();
        mendedOnce();
        mendedThenAllThatWasBelow();
        notMended();
        way();
        counts();
        countsOfTheLast();
        Due.end();
    }

    private static void lists(HeaderWays x, int... segments) {
        x.clear();
        for (int segment : segments) {
            Due.isTrue("push of " + segment, x.push(segment / 100, segment % 100) > 0);
        }
    }

    private static void ways(HeaderWays x, int... due) {
        Due.is("way(-1)", x.way(-1), due.length - 1);
        for (int k = 0; k < due.length; k++) {
            Due.is("way(" + k + ")", x.way(k), due[k]);
        }
        Due.is("way(" + due.length + ")", x.way(due.length), HeaderWays.NONE);
    }

    private static void protect() {
        HeaderWays x = new HeaderWays();
        Due.is("protect(-1)", x.protect(-1), HeaderWays.OUTSIDE);
        Due.is("protect(2)", x.protect(2), HeaderWays.OUTSIDE);
        Due.is("protect(most)", x.protect(MOST), HeaderWays.OUTSIDE);
        Due.is("protect(0)", x.protect(0), 0);
        Due.is("protect(1)", x.protect(1), 0);
        Due.is("count(6)", x.count(6), 1);
        Due.is("protect(1) once more", x.protect(1), 1);
        Due.is("protect(0) again", x.protect(0), 1);
        Due.is("count(6) again", x.count(6), 0);
    }

    private static void sendRefused() {
        HeaderWays x = Due.told(ROUND);
        Due.is("send(0)", x.send(0), 0);
        Due.is("send(5)", x.send(5), HeaderWays.UNKNOWN);
        Due.is("send(-1)", x.send(-1), HeaderWays.UNKNOWN);
        Due.is("send(least)", x.send(LEAST), HeaderWays.UNKNOWN);
        Due.is("count(7)", x.count(7), 1);
        ways(x, 0);
    }

    private static void sendByKinds() {
        HeaderWays x = Due.told(ROUND);
        lists(x, 3);
        Due.is("send(0) by COST", x.send(0), 3);
        ways(x, 0, 1, 2, 3);
        lists(x, 103);
        Due.is("send(0) by DELAY", x.send(0), 3);
        ways(x, 0, 4, 3);
        lists(x, 204);
        Due.is("send(0) over a link", x.send(0), 4);
        ways(x, 0, 4);
        Due.is("send(4) over a link", x.send(4), 0);
        ways(x, 4, 0);
        lists(x, 204, 2, 104);
        Due.is("send(4) over all", x.send(4), 4);
        ways(x, 4, 0, 1, 2, 3, 4);
        int[] due = {2, 2, 2, 2, 4};
        for (int link = 0; link < due.length; link++) {
            Due.is("link(" + link + ", 5)", x.link(link, 5), due[link]);
        }
    }

    private static void sendTakesOff() {
        HeaderWays x = Due.told(ROUND);
        lists(x, 0, 100, 0, 1, 101, 0);
        Due.is("send(0)", x.send(0), 0);
        ways(x, 0, 1, 0);
        lists(x, 3, 2);
        Due.is("send(1) comes by 2 ahead of 3", x.send(1), 2);
        ways(x, 1, 2, 3, 2);
        lists(x, 1, 200);
        Due.is("send(1) of a node and its own link", x.send(1), 0);
        lists(x);
        Due.is("send(3) with nothing", x.send(3), 3);
        ways(x, 3);
    }

    private static void sendKeepsTheList() {
        HeaderWays x = Due.told(ROUND);
        lists(x, 1, 204, 102);
        x.protect(1);
        x.fail(4);
        x.send(0);
        Due.is("count(4)", x.count(4), 3);
        Due.is("segment(0, 1)", x.segment(0, 1), 1);
        Due.is("segment(1, 0)", x.segment(1, 0), 2);
        Due.is("segment(2, 0)", x.segment(2, 0), 1);
    }

    private static void lostWithoutNext() {
        HeaderWays x = Due.told("nodes 3;link 0 1 1 1");
        lists(x, 2);
        Due.is("send(0) without NEXT", x.send(0), -11);
        ways(x, 0);
        lists(x, 1, 102);
        Due.is("send(0) without NEXT behind a hop", x.send(0), -11);
        ways(x, 0, 1);
        HeaderWays y = Due.told(LINE);
        y.fail(1);
        y.learn(1);
        y.heal(1);
        lists(y, 2);
        Due.is("send(0) to one that has not learnt", y.send(0), -11);
        ways(y, 0, 1);
        Due.is("send(1) not learnt", y.send(1), -11);
        y.learn(1);
        Due.is("send(0) learnt", y.send(0), 2);
    }

    private static void lostAtNoEnd() {
        HeaderWays x = Due.told(LINE);
        x.protect(1);
        lists(x, 202);
        Due.is("send(0)", x.send(0), -13);
        ways(x, 0);
        x.fail(2);
        Due.is("send(0) of a link that is down", x.send(0), -13);
        Due.is("send(2) of a link that is down", x.send(2), -12);
        lists(x, 1, 200, 201);
        Due.is("send(1) behind a hop", x.send(1), -13);
        ways(x, 1, 0);
        Due.is("count(10)", x.count(10), 4);
    }

    private static void lostOverDown() {
        HeaderWays x = Due.told(ROUND);
        lists(x, 2);
        x.fail(1);
        Due.is("send(0) not learnt", x.send(0), -12);
        ways(x, 0, 1);
        lists(x, 200, 201);
        Due.is("send(0) over the link", x.send(0), -12);
        ways(x, 0, 1);
        x.learn(1);
        Due.is("send(0) over the link that 1 holds to be down", x.send(0), -12);
        Due.is("count(9)", x.count(9), 0);
        Due.is("link(1, 5)", x.link(1, 5), 0);
    }

    private static void lostBehindTwentyHops() {
        HeaderWays x = Due.told(ROUND);
        x.fail(1);
        x.learn(1);
        lists(x, 2);
        Due.is("send(0) round and round", x.send(0), -14);
        Due.is("way(-1)", x.way(-1), 20);
        Due.is("way(20)", x.way(20), 0);
        Due.is("way(19)", x.way(19), 1);
        Due.is("way(21)", x.way(21), HeaderWays.NONE);
        Due.is("link(0, 5)", x.link(0, 5), 20);
        HeaderWays y = Due.told(LINE);
        lists(y, 3, 0, 3, 0, 3, 0, 2, 3);
        Due.is("send(0) with one left", y.send(0), -14);
        Due.is("way(-1) with one left", y.way(-1), 20);
        lists(y, 3, 0, 3, 0, 3, 0, 2, 201);
        Due.is("send(0) with a link left", y.send(0), -14);
        lists(y, 3, 0, 3, 0, 3, 0, 2, 200);
        Due.is("send(0) with a link of no end left", y.send(0), -14);
    }

    private static void thereBehindTwentyHops() {
        HeaderWays x = Due.told(LINE);
        lists(x, 3, 0, 3, 0, 3, 0, 2);
        Due.is("send(0)", x.send(0), 2);
        Due.is("way(-1)", x.way(-1), 20);
        Due.is("way(20)", x.way(20), 2);
        lists(x, 3, 0, 3, 0, 3, 0, 2, 102);
        Due.is("send(0) with one to take off", x.send(0), 2);
        Due.is("way(-1) with one to take off", x.way(-1), 20);
        Due.is("count(8)", x.count(8), 2);
    }

    private static void mended() {
        HeaderWays x = Due.told(ROUND);
        x.protect(1);
        x.fail(1);
        lists(x, 3);
        Due.is("send(0)", x.send(0), 3);
        ways(x, 0, 1, 0, 4, 3);
        Due.is("count(13)", x.count(13), 1);
        Due.is("count(9)", x.count(9), 1);
        Due.is("count(8)", x.count(8), 1);
        Due.is("count(10)", x.count(10), 0);
        Due.is("link(0, 5)", x.link(0, 5), 2);
        Due.is("link(1, 5)", x.link(1, 5), 0);
        Due.is("link(4, 5)", x.link(4, 5), 1);
        Due.is("send(4)", x.send(4), 3);
        Due.is("count(13) of another", x.count(13), 0);
        Due.is("count(9) of another", x.count(9), 1);
    }

    // The list leads to the other end of the link, so the one over it has to be taken off.
    private static void mendedOverLink() {
        HeaderWays x = Due.told(ROUND);
        x.protect(1);
        x.fail(1);
        lists(x, 201);
        Due.is("send(1)", x.send(1), 2);
        ways(x, 1, 0, 4, 3, 2);
        Due.is("send(2) from the other end", x.send(2), 1);
        ways(x, 2, 3, 4, 0, 1);
        lists(x, 201, 3);
        Due.is("send(1) and on", x.send(1), 3);
        ways(x, 1, 0, 4, 3, 2, 3);
    }

    // By DELAY it met the link that is down, but the way round is by COST.
    private static void mendedByCost() {
        HeaderWays x = Due.told("nodes 4;link 0 1 9 1;link 0 2 1 9;link 1 2 1 9;link 0 3 9 2;link 1 3 9 2");
        x.protect(1);
        x.fail(0);
        lists(x, 101);
        Due.is("send(0)", x.send(0), 1);
        ways(x, 0, 2, 1);
        x.learn(0);
        Due.is("send(0) learnt", x.send(0), 1);
        ways(x, 0, 3, 1);
        Due.is("count(9)", x.count(9), 1);
    }

    private static void mendedOnce() {
        HeaderWays x = Due.told(ROUND);
        x.protect(1);
        x.fail(1);
        x.fail(4);
        lists(x, 3);
        Due.is("send(0)", x.send(0), -12);
        ways(x, 0, 1, 0);
        Due.is("count(13)", x.count(13), 1);
        Due.is("count(9)", x.count(9), 1);
        Due.is("count(10)", x.count(10), 1);
        Due.is("count(8)", x.count(8), 0);
        Due.is("send(0) once more", x.send(0), -12);
        Due.is("count(9) once more", x.count(9), 2);
    }

    private static void mendedThenAllThatWasBelow() {
        HeaderWays x = Due.told(ROUND);
        x.protect(1);
        x.fail(1);
        lists(x, 2, 104, 3, 2, 3, 2, 3, 4);
        Due.is("send(0)", x.send(0), 4);
        ways(x, 0, 1, 0, 4, 3, 2, 3, 4, 3, 2, 3, 2, 3, 4);
    }

    private static void notMended() {
        HeaderWays x = Due.told(ROUND);
        x.fail(1);
        x.fail(0);
        x.learn(1);
        x.heal(0);
        x.protect(1);
        lists(x, 201);
        Due.is("send(1) without a REPAIR", x.send(1), -12);
        ways(x, 1);
        Due.is("count(13)", x.count(13), 0);
        x.undo();
        x.undo();
        x.heal(0);
        x.protect(0);
        Due.is("send(1) without protection", x.send(1), -12);
        ways(x, 1);
        x.protect(1);
        Due.is("send(1) with both", x.send(1), 2);
        x.learn(1);
        Due.is("send(1) mended into a round", x.send(1), -14);
        Due.is("count(13) of the round", x.count(13), 1);
        Due.is("count(10) of the round", x.count(10), 3);
    }

    private static void way() {
        HeaderWays x = Due.told(LINE);
        Due.is("way(-2)", x.way(-2), HeaderWays.OUTSIDE);
        Due.is("way(least)", x.way(LEAST), HeaderWays.OUTSIDE);
        Due.is("way(-1) of none", x.way(-1), HeaderWays.NONE);
        Due.is("way(0) of none", x.way(0), HeaderWays.NONE);
        lists(x, 3);
        x.send(0);
        ways(x, 0, 1, 2, 3);
        Due.is("way(-2) of one", x.way(-2), HeaderWays.OUTSIDE);
        Due.is("way(most) of one", x.way(MOST), HeaderWays.NONE);
        x.send(2);
        ways(x, 2, 3);
        x.clear();
        x.fail(0);
        ways(x, 2, 3);
        Due.tell(x, "link 0 1 1 1", 1);
        Due.is("way(-1) behind a text", x.way(-1), HeaderWays.NONE);
    }

    private static void counts() {
        HeaderWays x = Due.told(ROUND);
        Due.is("count(-1)", x.count(-1), HeaderWays.OUTSIDE);
        Due.is("count(14)", x.count(14), HeaderWays.OUTSIDE);
        Due.is("count(most)", x.count(MOST), HeaderWays.OUTSIDE);
        Due.is("count(least)", x.count(LEAST), HeaderWays.OUTSIDE);
        x.fail(1);
        x.fail(2);
        x.learn(0);
        x.learn(4);
        lists(x, 4, 103, 202);
        x.trace(0);
        x.trace(4);
        x.protect(1);
        x.write('n');
        x.write(' ');
        x.write(';');
        x.write('2');
        x.write('2');
        int[] due = {5, 5, 3, 3, 3, 2, 1, 0, 0, 0, 0, 4, 5, 0};
        for (int what = 0; what < due.length; what++) {
            Due.is("count(" + what + ")", x.count(what), due[what]);
        }
    }

    private static void countsOfTheLast() {
        HeaderWays x = Due.told(ROUND);
        x.fail(1);
        x.protect(1);
        lists(x, 201);
        Due.is("send(1)", x.send(1), 2);
        Due.is("send(0)", x.send(0), -13);
        x.protect(0);
        Due.is("send(2)", x.send(2), -12);
        lists(x, 4);
        Due.is("send(3)", x.send(3), 4);
        Due.is("send(4)", x.send(4), 4);
        int[] due = {5, 3, 1, 2};
        for (int i = 0; i < due.length; i++) {
            Due.is("count(" + (7 + i) + ")", x.count(7 + i), due[i]);
        }
        x.undo();
        Due.is("count(7) stays", x.count(7), 5);
        Due.tell(x, "nodes 5", 1);
        for (int what = 7; what <= 13; what++) {
            Due.is("count(" + what + ") behind a text", x.count(what), 0);
        }
    }
}
