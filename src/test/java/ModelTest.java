/**
 * Runs of calls, drawn by a row of numbers that is always the same, each answer held against that
 * of Model. It bears on all promises, most on those where texts, nets and lists meet.
 */
public final class ModelTest {
    private static final int OBJECTS = 1500, CALLS = 512;
    private static final int[] ODD = {-2, -1, 14, 100, Integer.MIN_VALUE, Integer.MAX_VALUE};

    private long row = 20250101;
    private HeaderWays x;
    private Model model;
    private int calls;
    private int nodes;
    private boolean right;

    public static void main(String[] args) {
        ModelTest test = new ModelTest();
        for (int object = 0; object < OBJECTS; object++) {
            test.live(object);
        }
        Due.end();
    }

    private int draw(int below) {
        row = row * 6364136223846793005L + 1442695040888963407L;
        return (int) ((row >>> 33) % below);
    }

    private boolean seldom(int one) {
        return draw(one) == 0;
    }

    private void same(String call, int got, int due) {
        calls++;
        if (right) {
            Due.is(call, got, due);
            right = got == due;
        }
    }

    private void live(int object) {
        x = new HeaderWays();
        model = new Model();
        calls = 0;
        nodes = 2;
        right = true;
        if (!seldom(20)) {
            write(object, netText());
            same("tell() of object " + object, x.tell(), model.tell());
        }
        while (calls < CALLS) {
            call(object);
        }
    }

    private void write(int object, String text) {
        for (int i = 0; i < text.length() && calls < CALLS; i++) {
            int letter = text.charAt(i);
            same("write(" + letter + ") of object " + object, x.write(letter), model.write(letter));
        }
    }

    // ---- texts

    private String netText() {
        StringBuilder text = new StringBuilder();
        nodes = 3 + draw(6);
        text.append("nodes").append(nodes);
        int most = 1 + draw(3);
        int many = seldom(10) ? 15 : nodes + draw(6);
        for (int i = 0; i < many && text.length() < 188; i++) {
            int u = i < nodes - 1 && !seldom(8) ? i + 1 : draw(nodes);
            int v = u == i + 1 ? draw(u) : draw(nodes);
            if (u != v) {
                text.append(seldom(6) ? " ; " : ";").append(linkText(u, v, most));
            }
        }
        return text.toString();
    }

    private String linkText(int u, int v, int most) {
        String link = seldom(9) ? "link " : "link";
        int top = most == 3 ? 9 : most + 1;
        return link + u + " " + v + " " + (1 + draw(top)) + " " + (1 + draw(top));
    }

    private String anyText() {
        StringBuilder text = new StringBuilder();
        int clauses = seldom(12) ? 23 + draw(4) : 1 + draw(4);
        boolean cheap = clauses > 10;
        for (int i = 0; i < clauses; i++) {
            if (i > 0) {
                text.append(';');
            }
            if (cheap || seldom(6)) {
                text.append("nodes").append(2 + draw(7));
            } else {
                text.append(linkText(draw(nodes), draw(nodes), 3));
            }
        }
        for (int i = draw(3); i > 0 && seldom(2); i--) {
            spoil(text);
        }
        return text.toString();
    }

    private void spoil(StringBuilder text) {
        String signs = "; 0123456789nodeslinkaz`{/:AZ" + (char) 9 + (char) 228;
        int at = draw(text.length() + 1);
        char sign = signs.charAt(draw(signs.length()));
        if (at == text.length() || seldom(3)) {
            text.insert(at, sign);
        } else if (seldom(2) && text.length() > 1) {
            text.deleteCharAt(at);
        } else {
            text.setCharAt(at, sign);
        }
    }

    private void retell(int object) {
        write(object, anyText());
        same("fault()", x.fault(), model.fault());
        if (seldom(2)) {
            same("tell()", x.tell(), model.tell());
            nodes = Math.max(model.count(0), 2);
        }
        same("erase()", x.erase(), model.erase());
    }

    // ---- calls

    private int node() {
        return seldom(40) ? ODD[draw(ODD.length)] : draw(seldom(20) ? 9 : nodes);
    }

    private int link() {
        int many = model.count(1);
        return seldom(30) || many == 0 ? ODD[draw(ODD.length)] : draw(seldom(30) ? many + 1 : many);
    }

    private int within(int below) {
        return seldom(30) ? ODD[draw(ODD.length)] : draw(below);
    }

    private int place(int below) {
        return seldom(30) ? ODD[draw(ODD.length)] : draw(below + 1) - 1;
    }

    private void call(int object) {
        String of = ") of object " + object + ", call " + calls;
        switch (draw(12)) {
            case 0, 1, 2 -> changeNet(of);
            case 3, 4 -> askNet(of);
            case 5 -> askRounds(of);
            case 6, 7 -> changeLists(of);
            case 8 -> askLists(of);
            case 9 -> followWay(of);
            case 10 -> sendLetter(of);
            default -> askRest(object, of);
        }
    }

    private void changeNet(String of) {
        int link = link();
        int node = node();
        switch (draw(8)) {
            case 0, 1 -> same("fail(" + link + of, x.fail(link), model.fail(link));
            case 2 -> same("heal(" + link + of, x.heal(link), model.heal(link));
            case 3 -> {
                int cost = seldom(20) ? 10 * draw(2) : 1 + draw(9);
                int delay = seldom(20) ? 10 * draw(2) : 1 + draw(9);
                same("tune(" + link + ", " + cost + ", " + delay + of, x.tune(link, cost, delay), model.tune(link, cost, delay));
            }
            case 4, 5, 6 -> same("learn(" + node + of, x.learn(node), model.learn(node));
            default -> same("undo(" + of, x.undo(), model.undo());
        }
    }

    private void askNet(String of) {
        int u = node();
        int w = node();
        int link = link();
        int two = within(2);
        int what = within(6);
        String ways = u + ", " + w + ", " + two + of;
        switch (draw(5)) {
            case 0 -> same("next(" + ways, x.next(u, w, two), model.next(u, w, two));
            case 1 -> same("far(" + ways, x.far(u, w, two), model.far(u, w, two));
            case 2 -> same("space(" + u + ", " + link + ", " + two + of, x.space(u, link, two), model.space(u, link, two));
            case 3 -> same("seen(" + u + of, x.seen(u), model.seen(u));
            default -> same("link(" + link + ", " + what + of, x.link(link, what), model.link(link, what));
        }
    }

    private void askRounds(String of) {
        int node = node();
        int k = place(8);
        switch (draw(3)) {
            case 0 -> same("rings(" + node + of, x.rings(node), model.rings(node));
            case 1 -> same("safe(" + node + of, x.safe(node), model.safe(node));
            default -> same("order(" + k + of, x.order(k), model.order(k));
        }
    }

    private void changeLists(String of) {
        int kind = seldom(30) ? ODD[draw(ODD.length)] : draw(3);
        int what = kind == 2 ? link() : node();
        int node = node();
        switch (draw(12)) {
            case 0, 1, 2, 3, 4 -> same("push(" + kind + ", " + what + of, x.push(kind, what), model.push(kind, what));
            case 5 -> same("clear(" + of, x.clear(), model.clear());
            case 6 -> same("untrace(" + of, x.untrace(), model.untrace());
            case 7 -> same("adopt(" + of, x.adopt(), model.adopt());
            default -> same("trace(" + node + of, x.trace(node), model.trace(node));
        }
    }

    private void askLists(String of) {
        int node = node();
        int link = link();
        int w = node();
        int k = place(5);
        int two = within(2);
        switch (draw(4)) {
            case 0 -> same("segment(" + k + ", " + two + of, x.segment(k, two), model.segment(k, two));
            case 1 -> same("brief(" + k + of, x.brief(k), model.brief(k));
            default -> same("repair(" + node + ", " + link + ", " + w + ", " + k + of,
                x.repair(node, link, w, k), model.repair(node, link, w, k));
        }
    }

    // A way of some length, each of its steps tried with all nodes, and its short list.
    private void followWay(String of) {
        same("untrace(" + of, x.untrace(), model.untrace());
        int node = node();
        same("trace(" + node + of, x.trace(node), model.trace(node));
        for (int tries = draw(24); tries > 0 && calls < CALLS - 12; tries--) {
            node = draw(nodes);
            same("trace(" + node + of, x.trace(node), model.trace(node));
        }
        for (int k = -1; k < 6 && calls < CALLS; k++) {
            same("brief(" + k + of, x.brief(k), model.brief(k));
        }
    }

    private void sendLetter(String of) {
        int node = node();
        if (seldom(3)) {
            int on = seldom(4) ? within(2) : 1;
            same("protect(" + on + of, x.protect(on), model.protect(on));
        }
        same("send(" + node + of, x.send(node), model.send(node));
        for (int k = -1; k < 6 && calls < CALLS; k++) {
            same("way(" + k + of, x.way(k), model.way(k));
        }
        same("count(13" + of, x.count(13), model.count(13));
    }

    private void askRest(int object, String of) {
        int what = within(15);
        int k = place(22);
        if (seldom(9)) {
            retell(object);
        } else if (seldom(3)) {
            same("way(" + k + of, x.way(k), model.way(k));
        } else {
            same("count(" + what + of, x.count(what), model.count(what));
        }
    }
}
