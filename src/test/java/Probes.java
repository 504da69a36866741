import java.util.ArrayList;
import java.util.List;

/**
 * Looks at all that can be asked of an object, with objects of their own for what changes it, to
 * see whether two rows of calls lead to the same. Each object stays below its 512 calls.
 */
final class Probes {
    private static final int NODES = 8, LINKS = 14, SEGMENTS = 8, HOPS = 20, UNDONE = 8;

    private Probes() {
    }

    /** The first probe that tells the objects behind these rows of calls from one another, or nothing. */
    static String difference(List<String> one, List<String> other) {
        List<List<String>> probes = probes();
        for (List<String> probe : probes) {
            List<Integer> ones = answers(one, probe);
            List<Integer> others = answers(other, probe);
            for (int i = 0; i < probe.size(); i++) {
                if (!ones.get(i).equals(others.get(i))) {
                    return String.join(" ", probe.subList(Math.max(0, i - 3), i)) + " " + probe.get(i) + " answers "
                        + others.get(i) + ", not " + ones.get(i);
                }
            }
        }
        return "";
    }

    private static List<Integer> answers(List<String> calls, List<String> probe) {
        Used x = new Used(calls);
        List<Integer> answers = new ArrayList<>();
        for (String call : probe) {
            answers.add(x.ask(call));
        }
        return answers;
    }

    private static List<List<String>> probes() {
        List<List<String>> all = new ArrayList<>();
        all.add(told());
        all.add(row("link(%d, %d)", LINKS, 6));
        all.add(found());
        for (int kind = 0; kind < 2; kind++) {
            all.add(row("next(%d, %d, " + kind + ")", NODES, NODES));
            all.add(row("far(%d, %d, " + kind + ")", NODES, NODES));
            all.add(row("space(%d, %d, " + kind + ")", NODES, LINKS));
        }
        for (int node = 0; node < NODES; node++) {
            all.add(row("repair(" + node + ", %d, %d, 0)", LINKS, NODES));
        }
        for (int times = 1; times <= UNDONE + 1; times++) {
            all.add(undone(times));
        }
        for (int node = 0; node < NODES; node++) {
            all.add(sent(node));
        }
        all.add(retold(""));
        all.add(retold("k0 1 1 1"));
        all.add(relisted());
        return all;
    }

    private static void add(List<String> probe, String call, int from, int to) {
        for (int number = from; number <= to; number++) {
            probe.add(String.format(call, number));
        }
    }

    private static List<String> row(String call, int firsts, int seconds) {
        List<String> probe = new ArrayList<>();
        for (int first = 0; first < firsts; first++) {
            for (int second = 0; second < seconds; second++) {
                probe.add(String.format(call, first, second));
            }
        }
        return probe;
    }

    private static List<String> told() {
        List<String> probe = new ArrayList<>();
        add(probe, "count(%d)", 0, 13);
        add(probe, "seen(%d)", 0, NODES - 1);
        add(probe, "segment(%d, 0)", 0, SEGMENTS - 1);
        add(probe, "segment(%d, 1)", 0, SEGMENTS - 1);
        add(probe, "way(%d)", -1, HOPS);
        probe.add("fault()");
        return probe;
    }

    private static List<String> found() {
        List<String> probe = new ArrayList<>();
        add(probe, "order(%d)", -1, NODES - 1);
        add(probe, "brief(%d)", -1, SEGMENTS - 1);
        add(probe, "rings(%d)", 0, NODES - 1);
        add(probe, "safe(%d)", 0, NODES - 1);
        return probe;
    }

    private static List<String> undone(int times) {
        List<String> probe = new ArrayList<>();
        add(probe, "undo()", 1, times);
        add(probe, "link(%d, 2)", 0, LINKS - 1);
        add(probe, "link(%d, 3)", 0, LINKS - 1);
        add(probe, "link(%d, 4)", 0, LINKS - 1);
        add(probe, "seen(%d)", 0, NODES - 1);
        return probe;
    }

    private static List<String> sent(int node) {
        List<String> probe = new ArrayList<>();
        probe.add("send(" + node + ")");
        add(probe, "way(%d)", -1, HOPS);
        add(probe, "count(%d)", 7, 13);
        add(probe, "link(%d, 5)", 0, LINKS - 1);
        return probe;
    }

    // Some of the texts are whole as they are, some only with these letters.
    private static List<String> retold(String more) {
        List<String> probe = new ArrayList<>();
        for (int i = 0; i < more.length(); i++) {
            probe.add("write(" + (int) more.charAt(i) + ")");
        }
        probe.add("fault()");
        probe.add("tell()");
        add(probe, "count(%d)", 0, 13);
        add(probe, "link(%d, 0)", 0, LINKS - 1);
        add(probe, "link(%d, 1)", 0, LINKS - 1);
        add(probe, "link(%d, 2)", 0, LINKS - 1);
        add(probe, "seen(%d)", 0, NODES - 1);
        probe.add("erase()");
        probe.add("write(110)");
        return probe;
    }

    private static List<String> relisted() {
        List<String> probe = new ArrayList<>();
        add(probe, "trace(%d)", 0, NODES - 1);
        probe.add("push(0, 0)");
        add(probe, "segment(%d, 1)", 0, SEGMENTS - 1);
        probe.add("adopt()");
        add(probe, "segment(%d, 1)", 0, SEGMENTS - 1);
        probe.add("clear()");
        probe.add("untrace()");
        add(probe, "trace(%d)", 0, NODES - 1);
        probe.add("protect(0)");
        return probe;
    }
}
