import java.util.ArrayList;
import java.util.List;

/** That a refused call changed nothing is told by Probes alone: so they have to see each kind of change. */
public final class ProbesTest {
    private static final String[] CHANGES = {
        "write(107)", "erase()", "fail(0)", "heal(1)", "tune(0, 1, 8)", "tune(0, 2, 9)", "tune(0, 1, 9)", "learn(0)", "learn(2)",
        "undo()", "push(0, 0)", "clear()", "trace(3)", "untrace()", "adopt()", "protect(0)", "send(0)", "send(3)", "send(4)"
    };
    private static final String[] NONE = {
        "fault()", "tell()", "link(0, 5)", "seen(0)", "next(0, 1, 0)", "far(0, 3, 1)", "space(0, 0, 1)", "rings(2)", "safe(1)", "order(0)",
        "segment(0, 0)", "repair(1, 1, 2, 0)", "brief(0)", "way(0)", "count(0)", "protect(1)", "fail(1)", "heal(0)", "trace(4)"
    };

    public static void main(String[] args) {
        List<String> rich = calls(Nets.RICH);
        for (String change : CHANGES) {
            Due.isTrue("the probes see " + change, !Probes.difference(rich, with(rich, change)).isEmpty());
        }
        for (String call : NONE) {
            Due.is("the probes see nothing of " + call + ": " + Probes.difference(rich, with(rich, call)),
                Probes.difference(rich, with(rich, call)).length(), 0);
        }
        Due.isTrue("the probes see what was undone", !Probes.difference(with(rich, "fail(0)", "heal(0)"), with(rich, "learn(4)", "learn(4)")).isEmpty());
        Due.isTrue("the probes see the letters", !Probes.difference(rich, calls(Nets.RICH.replace("'nodes 3;lin'", "'nodes 4;lin'"))).isEmpty());
        Due.isTrue("the probes see the list", !Probes.difference(rich, calls(Nets.RICH.replace("push(1, 2)", "push(0, 2)"))).isEmpty());
        Due.isTrue("the probes see the trace", !Probes.difference(rich, calls(Nets.RICH.replace("trace(0) trace(4)", "trace(4) trace(0)"))).isEmpty());
        Due.end();
    }

    private static List<String> with(List<String> calls, String... more) {
        List<String> all = new ArrayList<>(calls);
        all.addAll(List.of(more));
        return all;
    }

    private static List<String> calls(String run) {
        return Edge.made(run).asked();
    }
}
