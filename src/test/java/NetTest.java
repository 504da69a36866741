/** Promises 7 to 18: links that go down and up, what nodes have seen, rings and orders. */
public final class NetTest {
    // By COST it goes round over 1, 2, 3; only the DELAY is for the link of 0 and 4.
    private static final String ROUND = "nodes5;link0 1 1 9;link1 2 1 9;link2 3 1 9;link3 4 1 9;link0 4 9 1";
    // From 0 to 3 the lowest NODE comes first over 1 and 5, from 3 to 0 over 4 and 2.
    private static final String TWO_SIDES = "nodes6;link0 1 1 1;link1 5 1 1;link5 3 1 1;link0 2 1 1;link2 4 1 1;link4 3 1 1";
    private static final int LEAST = Integer.MIN_VALUE, MOST = Integer.MAX_VALUE;

    public static void main(String[] args) {
        fail();
        heal();
        tune();
        learn();
        undo();
        undoEight();
        undoOfNothing();
        seen();
        next();
        far();
        nextAndFarBySeen();
        space();
        spaceBySeen();
        rings();
        safe();
        order();
        orderOfFewer();
        orderBehindDeadEnds();
        noOrder();
        Due.end();
    }

    private static void fail() {
        HeaderWays x = Due.told(ROUND);
        Due.is("fail(-1)", x.fail(-1), HeaderWays.UNKNOWN);
        Due.is("fail(5)", x.fail(5), HeaderWays.UNKNOWN);
        Due.is("fail(least)", x.fail(LEAST), HeaderWays.UNKNOWN);
        Due.is("fail(most)", x.fail(MOST), HeaderWays.UNKNOWN);
        Due.is("fail(2)", x.fail(2), 4);
        Due.is("link(2, 4)", x.link(2, 4), 0);
        Due.is("link(1, 4)", x.link(1, 4), 1);
        Due.is("fail(2) once more", x.fail(2), HeaderWays.NOT);
        Due.is("count(11)", x.count(11), 1);
        Due.is("fail(0)", x.fail(0), 3);
        Due.is("count(2)", x.count(2), 3);
        Due.is("seen(0)", x.seen(0), 31);
        Due.is("count(3)", x.count(3), 5);
        for (int link : new int[] {1, 3, 4}) {
            x.fail(link);
        }
        Due.is("count(2) of none", x.count(2), 0);
    }

    private static void heal() {
        HeaderWays x = Due.told(ROUND);
        Due.is("heal(-1)", x.heal(-1), HeaderWays.UNKNOWN);
        Due.is("heal(5)", x.heal(5), HeaderWays.UNKNOWN);
        Due.is("heal(most)", x.heal(MOST), HeaderWays.UNKNOWN);
        Due.is("heal(0)", x.heal(0), HeaderWays.NOT);
        Due.is("count(11)", x.count(11), 0);
        x.fail(0);
        x.fail(3);
        Due.is("heal(3)", x.heal(3), 4);
        Due.is("link(3, 4)", x.link(3, 4), 1);
        Due.is("link(0, 4)", x.link(0, 4), 0);
        Due.is("heal(3) once more", x.heal(3), HeaderWays.NOT);
        Due.is("learn(0)", x.learn(0), 1);
        Due.is("heal(0)", x.heal(0), 5);
        Due.is("seen(0) is not healed", x.seen(0), 30);
        Due.is("count(3)", x.count(3), 1);
        Due.is("count(11) of all", x.count(11), 5);
    }

    private static void tune() {
        HeaderWays x = Due.told(ROUND);
        Due.is("tune(5, 0, 0)", x.tune(5, 0, 0), HeaderWays.UNKNOWN);
        Due.is("tune(-1, 1, 1)", x.tune(-1, 1, 1), HeaderWays.UNKNOWN);
        Due.is("tune(0, 0, 1)", x.tune(0, 0, 1), HeaderWays.OUTSIDE);
        Due.is("tune(0, 10, 1)", x.tune(0, 10, 1), HeaderWays.OUTSIDE);
        Due.is("tune(0, 1, 0)", x.tune(0, 1, 0), HeaderWays.OUTSIDE);
        Due.is("tune(0, 1, 10)", x.tune(0, 1, 10), HeaderWays.OUTSIDE);
        Due.is("tune(0, least, most)", x.tune(0, LEAST, MOST), HeaderWays.OUTSIDE);
        Due.is("count(11)", x.count(11), 0);
        Due.is("tune(4, 2, 3)", x.tune(4, 2, 3), 9);
        Due.is("tune(4, 2, 9)", x.tune(4, 2, 9), 2);
        Due.is("link(4, 2)", x.link(4, 2), 2);
        Due.is("link(4, 3)", x.link(4, 3), 9);
        Due.is("next(0, 3, 0)", x.next(0, 3, 0), 1);
        Due.is("next(0, 4, 0)", x.next(0, 4, 0), 4);
        Due.is("far(0, 4, 1)", x.far(0, 4, 1), 9);
        x.fail(4);
        Due.is("tune(4, 5, 1) of a link that is down", x.tune(4, 5, 1), 2);
        Due.is("link(4, 4)", x.link(4, 4), 0);
    }

    private static void learn() {
        HeaderWays x = Due.told(ROUND);
        Due.is("learn(-1)", x.learn(-1), HeaderWays.UNKNOWN);
        Due.is("learn(5)", x.learn(5), HeaderWays.UNKNOWN);
        Due.is("learn(least)", x.learn(LEAST), HeaderWays.UNKNOWN);
        Due.is("learn(0) of nothing", x.learn(0), 0);
        x.fail(0);
        x.fail(2);
        Due.is("learn(0)", x.learn(0), 2);
        Due.is("seen(0)", x.seen(0), 26);
        Due.is("seen(1)", x.seen(1), 31);
        Due.is("count(3)", x.count(3), 4);
        Due.is("learn(0) once more", x.learn(0), 0);
        x.heal(0);
        x.fail(1);
        Due.is("learn(0) of one up, one down", x.learn(0), 2);
        Due.is("seen(0) then", x.seen(0), 25);
        Due.is("learn(4)", x.learn(4), 2);
    }

    private static void undo() {
        HeaderWays x = Due.told(ROUND);
        Due.is("undo()", x.undo(), HeaderWays.NOT);
        x.fail(1);
        x.learn(3);
        x.tune(0, 7, 8);
        x.heal(1);
        Due.is("undo() of heal", x.undo(), 3);
        Due.is("link(1, 4)", x.link(1, 4), 0);
        Due.is("undo() of tune", x.undo(), 2);
        Due.is("link(0, 2)", x.link(0, 2), 1);
        Due.is("link(0, 3)", x.link(0, 3), 9);
        Due.is("seen(3) still", x.seen(3), 29);
        Due.is("undo() of learn", x.undo(), 1);
        Due.is("seen(3)", x.seen(3), 31);
        Due.is("link(1, 4) still", x.link(1, 4), 0);
        Due.is("undo() of fail", x.undo(), 0);
        Due.is("link(1, 4) at last", x.link(1, 4), 1);
        Due.is("undo() of no more", x.undo(), HeaderWays.NOT);
    }

    private static void undoEight() {
        HeaderWays x = Due.told(ROUND);
        for (int i = 1; i <= 9; i++) {
            x.tune(0, i, 10 - i);
            Due.is("count(11) behind " + i, x.count(11), Math.min(i, 8));
        }
        Due.is("undo() of the ninth", x.undo(), 7);
        x.fail(3);
        Due.is("count(11)", x.count(11), 8);
        for (int left = 7; left >= 0; left--) {
            Due.is("undo() down to " + left, x.undo(), left);
        }
        Due.is("undo() of the first", x.undo(), HeaderWays.NOT);
        Due.is("link(0, 2)", x.link(0, 2), 1);
        Due.is("link(3, 4)", x.link(3, 4), 1);
    }

    private static void undoOfNothing() {
        HeaderWays x = Due.told(ROUND);
        x.fail(0);
        x.learn(1);
        x.learn(1);
        x.tune(2, 1, 9);
        Due.is("count(11)", x.count(11), 4);
        Due.is("fail(0) is refused", x.fail(0), HeaderWays.NOT);
        Due.is("learn(9) is refused", x.learn(9), HeaderWays.UNKNOWN);
        Due.is("tune(0, 0, 0) is refused", x.tune(0, 0, 0), HeaderWays.OUTSIDE);
        x.push(0, 1);
        x.trace(1);
        x.protect(1);
        Due.is("undo() of tune", x.undo(), 3);
        Due.is("undo() of the second learn", x.undo(), 2);
        Due.is("seen(1)", x.seen(1), 30);
        Due.is("undo() of the first learn", x.undo(), 1);
        Due.is("seen(1) again", x.seen(1), 31);
        Due.is("count(4)", x.count(4), 1);
        Due.is("count(5)", x.count(5), 1);
        Due.is("count(6)", x.count(6), 1);
    }

    private static void seen() {
        HeaderWays x = Due.told(ROUND);
        Due.is("seen(-1)", x.seen(-1), HeaderWays.UNKNOWN);
        Due.is("seen(5)", x.seen(5), HeaderWays.UNKNOWN);
        Due.is("seen(most)", x.seen(MOST), HeaderWays.UNKNOWN);
        Due.is("seen(4)", x.seen(4), 31);
        x.fail(3);
        Due.is("seen(4) not learnt", x.seen(4), 31);
        x.learn(4);
        Due.is("seen(4) learnt", x.seen(4), 23);
    }

    private static void next() {
        HeaderWays x = Due.told(ROUND);
        Due.is("next(5, 0, 0)", x.next(5, 0, 0), HeaderWays.UNKNOWN);
        Due.is("next(0, 5, 0)", x.next(0, 5, 0), HeaderWays.UNKNOWN);
        Due.is("next(-1, 0, 0)", x.next(-1, 0, 0), HeaderWays.UNKNOWN);
        Due.is("next(0, -1, 2)", x.next(0, -1, 2), HeaderWays.UNKNOWN);
        Due.is("next(0, 1, 2)", x.next(0, 1, 2), HeaderWays.OUTSIDE);
        Due.is("next(0, 1, -1)", x.next(0, 1, -1), HeaderWays.OUTSIDE);
        Due.is("next(0, 0, 2)", x.next(0, 0, 2), HeaderWays.OUTSIDE);
        Due.is("next(0, 0, 0)", x.next(0, 0, 0), HeaderWays.NONE);
        Due.is("next(0, 4, 0)", x.next(0, 4, 0), 1);
        Due.is("next(0, 4, 1)", x.next(0, 4, 1), 4);
        Due.is("next(4, 1, 0)", x.next(4, 1, 0), 3);
        Due.is("next(4, 1, 1)", x.next(4, 1, 1), 0);
        HeaderWays y = Due.told(TWO_SIDES);
        Due.is("next(0, 3, 0) of two", y.next(0, 3, 0), 1);
        Due.is("next(3, 0, 0) of two", y.next(3, 0, 0), 4);
        Due.is("next(1, 4, 1) of two", y.next(1, 4, 1), 0);
    }

    private static void far() {
        HeaderWays x = Due.told(ROUND);
        Due.is("far(5, 0, 0)", x.far(5, 0, 0), HeaderWays.UNKNOWN);
        Due.is("far(0, 5, 3)", x.far(0, 5, 3), HeaderWays.UNKNOWN);
        Due.is("far(0, 1, 2)", x.far(0, 1, 2), HeaderWays.OUTSIDE);
        Due.is("far(0, 0, -1)", x.far(0, 0, -1), HeaderWays.OUTSIDE);
        Due.is("far(2, 2, 1)", x.far(2, 2, 1), 0);
        Due.is("far(0, 4, 0)", x.far(0, 4, 0), 4);
        Due.is("far(0, 4, 1)", x.far(0, 4, 1), 1);
        Due.is("far(0, 2, 1)", x.far(0, 2, 1), 18);
        Due.is("far(3, 0, 1)", x.far(3, 0, 1), 10);
        HeaderWays y = Due.told("nodes 8;link0 1 9 1;link1 2 9 1;link2 3 9 1;link3 4 9 1;link4 5 9 1;link5 6 9 1;link6 7 9 1");
        Due.is("far(0, 7, 0) of the longest", y.far(0, 7, 0), 63);
        Due.is("far(7, 0, 1) of the longest", y.far(7, 0, 1), 7);
        Due.is("next(7, 0, 0) of the longest", y.next(7, 0, 0), 6);
    }

    private static void nextAndFarBySeen() {
        HeaderWays x = Due.told(ROUND);
        x.fail(0);
        Due.is("far(0, 1, 0) not learnt", x.far(0, 1, 0), 1);
        x.learn(0);
        Due.is("far(0, 1, 0) learnt", x.far(0, 1, 0), 12);
        Due.is("far(1, 0, 0) goes by 1", x.far(1, 0, 0), 1);
        Due.is("next(0, 1, 0) learnt", x.next(0, 1, 0), 4);
        x.fail(4);
        x.learn(0);
        Due.is("far(0, 1, 0) of no way", x.far(0, 1, 0), HeaderWays.NONE);
        Due.is("next(0, 1, 0) of no way", x.next(0, 1, 0), HeaderWays.NONE);
        Due.is("far(0, 0, 0) of no way", x.far(0, 0, 0), 0);
    }

    private static void space() {
        HeaderWays x = Due.told(TWO_SIDES);
        Due.is("space(6, 0, 0)", x.space(6, 0, 0), HeaderWays.UNKNOWN);
        Due.is("space(0, 6, 2)", x.space(0, 6, 2), HeaderWays.UNKNOWN);
        Due.is("space(-1, 0, 0)", x.space(-1, 0, 0), HeaderWays.UNKNOWN);
        Due.is("space(0, -1, 0)", x.space(0, -1, 0), HeaderWays.UNKNOWN);
        Due.is("space(0, 0, 2)", x.space(0, 0, 2), HeaderWays.OUTSIDE);
        Due.is("space(0, 0, -1)", x.space(0, 0, -1), HeaderWays.OUTSIDE);
        Due.is("space(0, 0, 0)", x.space(0, 0, 0), 1 + 4 + 16);
        Due.is("space(0, 0, 1)", x.space(0, 0, 1), 1 + 4 + 8 + 16);
        Due.is("space(0, 5, 0)", x.space(0, 5, 0), 63);
        Due.is("space(0, 5, 1)", x.space(0, 5, 1), 63 - 8);
        HeaderWays y = Due.told(ROUND);
        Due.is("space(0, 1, 0) by COST", y.space(0, 1, 0), 3);
        Due.is("space(0, 4, 0) by COST", y.space(0, 4, 0), 31);
    }

    private static void spaceBySeen() {
        HeaderWays x = Due.told(TWO_SIDES);
        x.fail(3);
        Due.is("space(0, 0, 0) not learnt", x.space(0, 0, 0), 21);
        x.learn(0);
        Due.is("space(0, 0, 0) learnt", x.space(0, 0, 0), 1);
        Due.is("space(0, 0, 1) learnt", x.space(0, 0, 1), 1);
        Due.is("space(0, 3, 0) learnt", x.space(0, 3, 0), 63);
        Due.is("space(2, 3, 1) of 2", x.space(2, 3, 1), 4 + 8 + 16);
        x.fail(0);
        x.learn(0);
        Due.is("space(0, 5, 0) of no ways", x.space(0, 5, 0), 1);
        Due.is("space(0, 5, 1) of no ways", x.space(0, 5, 1), 1);
    }

    private static void rings() {
        HeaderWays x = Due.told(ROUND.replace("nodes5", "nodes6") + ";link0 5 1 1");
        Due.is("rings(6)", x.rings(6), HeaderWays.UNKNOWN);
        Due.is("rings(-1)", x.rings(-1), HeaderWays.UNKNOWN);
        Due.is("rings(least)", x.rings(LEAST), HeaderWays.UNKNOWN);
        x.fail(1);
        Due.is("rings(2) ahead of all", x.rings(2), 0);
        x.learn(1);
        Due.is("rings(0)", x.rings(0), 0);
        Due.is("rings(2) and who leads into them", x.rings(2), 1 + 2 + 32);
        Due.is("rings(3)", x.rings(3), 1 + 2 + 32);
        x.learn(2);
        Due.is("rings(1)", x.rings(1), 4 + 8 + 16);
        x.learn(0);
        Due.is("rings(2) no more", x.rings(2), 0);
        Due.is("rings(1) still", x.rings(1), 4 + 8 + 16);
    }

    private static void safe() {
        HeaderWays x = Due.told(ROUND);
        Due.is("safe(5)", x.safe(5), HeaderWays.UNKNOWN);
        Due.is("safe(-1)", x.safe(-1), HeaderWays.UNKNOWN);
        Due.is("safe(3) of nothing", x.safe(3), 1);
        x.fail(1);
        int[] due = {1, 0, 0, 0, 1};
        for (int node = 0; node < due.length; node++) {
            Due.is("safe(" + node + ")", x.safe(node), due[node]);
        }
        Due.is("seen(1) is not other", x.seen(1), 31);
        Due.is("count(11)", x.count(11), 1);
        x.learn(1);
        Due.is("safe(0) ends the rings", x.safe(0), 1);
        Due.is("safe(1) leaves the rings", x.safe(1), 0);
        Due.is("safe(4) leaves the rings", x.safe(4), 0);
    }

    private static void order() {
        HeaderWays x = Due.told(ROUND);
        Due.is("order(-2)", x.order(-2), HeaderWays.OUTSIDE);
        Due.is("order(least)", x.order(LEAST), HeaderWays.OUTSIDE);
        Due.is("order(-1) of none", x.order(-1), 0);
        Due.is("order(0) of none", x.order(0), HeaderWays.NONE);
        x.fail(1);
        int[] due = {5, 0, 1, 4, 3, 2, HeaderWays.NONE, HeaderWays.NONE};
        for (int k = -1; k < due.length - 1; k++) {
            Due.is("order(" + k + ")", x.order(k), due[k + 1]);
        }
        Due.is("order(most)", x.order(MOST), HeaderWays.NONE);
        Due.is("seen(0) is not other", x.seen(0), 31);
        for (int k = 1; k < 6; k++) {
            x.learn(due[k]);
            for (int w = 0; w < 5; w++) {
                Due.is("rings(" + w + ") behind " + k, x.rings(w), 0);
            }
        }
        Due.is("order(-1) at last", x.order(-1), 0);
    }

    private static void orderOfFewer() {
        HeaderWays x = Due.told(ROUND);
        x.fail(1);
        x.learn(0);
        x.learn(4);
        int[] due = {3, 1, 3, 2, HeaderWays.NONE};
        for (int k = -1; k < due.length - 1; k++) {
            Due.is("order(" + k + ") of fewer", x.order(k), due[k + 1]);
        }
    }

    // 0 could learn first, and 3 then, but behind them neither 1 nor 2 could.
    private static void orderBehindDeadEnds() {
        HeaderWays x = Due.told("nodes4;link0 1 7 1;link1 2 5 1;link1 3 6 1;link2 3 6 1;link0 3 1 1;link0 2 1 1");
        x.fail(5);
        x.fail(2);
        x.fail(4);
        Due.is("safe(0)", x.safe(0), 1);
        int[] due = {4, 1, 2, 0, 3, HeaderWays.NONE};
        for (int k = -1; k < due.length - 1; k++) {
            Due.is("order(" + k + ") behind dead ends", x.order(k), due[k + 1]);
        }
        x.learn(0);
        x.learn(3);
        Due.is("order(-1) at the dead end", x.order(-1), HeaderWays.NOT);
    }

    private static void noOrder() {
        HeaderWays x = Due.told(ROUND);
        x.fail(1);
        x.learn(1);
        Due.is("order(-1) out of one round", x.order(-1), 4);
        Due.is("order(0) out of one round", x.order(0), 0);
        x.learn(2);
        Due.is("order(-1) of two rounds", x.order(-1), HeaderWays.NOT);
        Due.is("order(0) of two rounds", x.order(0), HeaderWays.NOT);
        Due.is("order(-2) of two rounds", x.order(-2), HeaderWays.OUTSIDE);
        x.learn(0);
        Due.is("order(-1) of two that wait for one another", x.order(-1), HeaderWays.NOT);
        x.learn(4);
        Due.is("order(-1) of the last one", x.order(-1), 1);
        Due.is("order(0) of the last one", x.order(0), 3);
    }
}
