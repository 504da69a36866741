import java.util.ArrayList;
import java.util.List;

/** Promises 16 to 18 in many nets: dense ones, in which what may learn first may lead nowhere. */
public final class OrderTest {
    private static final int NETS = 12000;

    private static long row = 7;
    private static int none = 0;
    private static int notByTheLowest = 0;

    public static void main(String[] args) {
        for (int net = 0; net < NETS; net++) {
            tryNet();
        }
        System.out.println(none + " nets without an order, " + notByTheLowest + " not by the lowest");
        Due.isTrue("there are nets without an order", none > 0);
        Due.isTrue("the lowest that may learn may lead nowhere", notByTheLowest > 0);
        Due.end();
    }

    private static int draw(int below) {
        row = row * 6364136223846793005L + 1442695040888963407L;
        return (int) ((row >>> 33) % below);
    }

    private static String netText(int nodes) {
        StringBuilder text = new StringBuilder("nodes").append(nodes);
        int most = 2 + draw(8);
        for (int i = 0; text.length() < 187 && i < 3 * nodes; i++) {
            int u = i < nodes - 1 ? i + 1 : draw(nodes);
            int v = i < nodes - 1 ? draw(u) : draw(nodes);
            if (u != v) {
                text.append(";link").append(u).append(' ').append(v).append(' ').append(1 + draw(most)).append(" 1");
            }
        }
        return text.toString();
    }

    private static void tryNet() {
        int nodes = 4 + draw(5);
        String text = netText(nodes);
        HeaderWays x = new HeaderWays();
        Model model = new Model();
        for (int i = 0; i < text.length(); i++) {
            x.write(text.charAt(i));
            model.write(text.charAt(i));
        }
        StringBuilder calls = new StringBuilder(text);
        Due.is("tell() of " + calls, x.tell(), model.tell());
        if (x.count(1) == 0) {
            return;
        }
        failSome(x, model, calls);
        for (int node = 0; node < nodes; node++) {
            if (draw(8) > 0) {
                x.learn(node);
                model.learn(node);
                calls.append(" learn ").append(node);
            }
        }
        for (int link = 0; link < x.count(1); link++) {
            if (x.link(link, 4) == 0) {
                x.heal(link);
                model.heal(link);
                calls.append(" heal ").append(link);
            }
        }
        failSome(x, model, calls);
        compare(x, model, nodes, calls.toString());
    }

    private static void failSome(HeaderWays x, Model model, StringBuilder calls) {
        for (int i = 1 + draw(5); i > 0; i--) {
            int link = draw(x.count(1));
            Due.is("fail(" + link + ") behind " + calls, x.fail(link), model.fail(link));
            calls.append(" fail ").append(link);
        }
    }

    private static void compare(HeaderWays x, Model model, int nodes, String calls) {
        for (int node = 0; node < nodes; node++) {
            Due.is("rings(" + node + ") behind " + calls, x.rings(node), model.rings(node));
            Due.is("safe(" + node + ") behind " + calls, x.safe(node), model.safe(node));
        }
        int size = model.order(-1);
        Due.is("order(-1) behind " + calls, x.order(-1), size);
        if (size < 0) {
            none++;
            return;
        }
        List<Integer> order = new ArrayList<>();
        for (int k = 0; k < size; k++) {
            order.add(model.order(k));
            Due.is("order(" + k + ") behind " + calls, x.order(k), order.get(k));
        }
        notByTheLowest += isByTheLowest(model, order, nodes) ? 0 : 1;
    }

    private static boolean isByTheLowest(Model model, List<Integer> order, int nodes) {
        for (int due : order) {
            for (int node = 0; node < due; node++) {
                int behind = model.count(3);
                boolean safe = model.safe(node) == 1;
                model.learn(node);
                boolean wasBehind = model.count(3) < behind;
                model.undo();
                if (safe && wasBehind) {
                    return false;
                }
            }
            model.learn(due);
        }
        return true;
    }
}
