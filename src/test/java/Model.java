import java.util.ArrayDeque;
import java.util.ArrayList;
import java.util.Arrays;
import java.util.Deque;
import java.util.HashMap;
import java.util.HashSet;
import java.util.List;
import java.util.Map;
import java.util.Set;
import java.util.regex.Matcher;
import java.util.regex.Pattern;

/**
 * The document once more, in the dearest and plainest way: all lists and all orders are gone
 * through, every undoable state is kept whole. ModelTest holds the program against it.
 */
final class Model {
    private static final int NONE = -1, UNKNOWN = -2, OUTSIDE = -3, NOT = -4, FULL = -5;
    private static final int NO_WAY = 1_000_000;
    private static final Pattern TOKEN = Pattern.compile("[a-z]+|[0-9]+|[^ ]", Pattern.DOTALL);

    private int n = 2;
    private List<int[]> links = new ArrayList<>();
    private int up = 0;
    private int[] seen = new int[8];
    private final List<Integer> counts = new ArrayList<>();
    private final StringBuilder text = new StringBuilder();
    private final Deque<Object[]> past = new ArrayDeque<>();
    private final List<int[]> list = new ArrayList<>();
    private final List<Integer> trace = new ArrayList<>();
    private int protection = 0;
    private int sent = 0;
    private int there = 0;
    private int mended = 0;
    private int lost = 0;
    private int lastMended = 0;
    private List<Integer> way = new ArrayList<>();
    private final Map<Integer, int[][][]> tables = new HashMap<>();

    // ---- what is told

    int write(int letter) {
        if (letter < 0 || letter > 255) {
            return OUTSIDE;
        }
        if (text.length() == 200) {
            return FULL;
        }
        text.append((char) letter);
        return text.length();
    }

    int erase() {
        int had = text.length();
        text.setLength(0);
        return had;
    }

    int fault() {
        return read(new ArrayList<>());
    }

    private static int digit(String token, int least, int most) {
        if (!token.matches("[0-9]") || token.charAt(0) - '0' < least || token.charAt(0) - '0' > most) {
            return NONE;
        }
        return token.charAt(0) - '0';
    }

    // What may stand next is told by the clause read so far: none of it, or some of its tokens.
    private int read(List<int[]> clauses) {
        int nodes = n;
        Set<String> pairs = new HashSet<>();
        for (int[] link : links) {
            pairs.add(link[0] + " " + link[1]);
        }
        Matcher tokens = TOKEN.matcher(text);
        List<Integer> clause = new ArrayList<>();
        String word = "";
        boolean whole = false;
        while (tokens.find()) {
            String token = tokens.group();
            if (whole) {
                if (!token.equals(";") || clauses.size() == 24) {
                    return tokens.start();
                }
                whole = false;
                word = "";
                clause.clear();
            } else if (word.isEmpty()) {
                if (!token.equals("nodes") && !token.equals("link")) {
                    return tokens.start();
                }
                word = token;
            } else if (word.equals("nodes")) {
                nodes = digit(token, 2, 8);
                if (nodes == NONE) {
                    return tokens.start();
                }
                pairs.clear();
                clauses.add(new int[] {nodes});
                whole = true;
            } else {
                int at = clause.size();
                int number = at < 2 ? digit(token, 0, nodes - 1) : digit(token, 1, 9);
                if (number == NONE) {
                    return tokens.start();
                }
                clause.add(number);
                if (at == 1) {
                    int u = clause.get(0);
                    pairs.add(Math.min(u, number) + " " + Math.max(u, number));
                    if (u == number || pairs.size() > 14) {
                        return tokens.start();
                    }
                }
                if (at == 3) {
                    clauses.add(new int[] {clause.get(0), clause.get(1), clause.get(2), clause.get(3)});
                    whole = true;
                }
            }
        }
        return whole ? NONE : text.length();
    }

    int tell() {
        List<int[]> clauses = new ArrayList<>();
        if (read(clauses) != NONE) {
            return NOT;
        }
        for (int[] clause : clauses) {
            if (clause.length == 1) {
                n = clause[0];
                links.clear();
                counts.clear();
                up = 0;
                Arrays.fill(seen, 0);
                list.clear();
                trace.clear();
                protection = 0;
            } else {
                tellLink(clause);
            }
        }
        for (int link = 0; link < counts.size(); link++) {
            counts.set(link, 0);
        }
        past.clear();
        sent = there = mended = lost = lastMended = 0;
        way = new ArrayList<>();
        text.setLength(0);
        tables.clear();
        return clauses.size();
    }

    private void tellLink(int[] clause) {
        int link = between(clause[0], clause[1]);
        if (link == NONE) {
            link = links.size();
            links.add(new int[] {Math.min(clause[0], clause[1]), Math.max(clause[0], clause[1]), 0, 0});
            counts.add(0);
            up |= 1 << link;
            for (int node = 0; node < n; node++) {
                seen[node] |= 1 << link;
            }
        }
        links.get(link)[2] = clause[2];
        links.get(link)[3] = clause[3];
    }

    private int between(int u, int v) {
        for (int link = 0; link < links.size(); link++) {
            int[] ends = links.get(link);
            if (ends[0] == Math.min(u, v) && ends[1] == Math.max(u, v)) {
                return link;
            }
        }
        return NONE;
    }

    private boolean noNode(int node) {
        return node < 0 || node >= n;
    }

    private boolean noLink(int link) {
        return link < 0 || link >= links.size();
    }

    int link(int link, int what) {
        if (noLink(link)) {
            return UNKNOWN;
        }
        if (what < 0 || what > 5) {
            return OUTSIDE;
        }
        return what == 5 ? counts.get(link) : what == 4 ? up >> link & 1 : links.get(link)[what];
    }

    // ---- the net

    private void keep() {
        List<int[]> copy = new ArrayList<>();
        for (int[] link : links) {
            copy.add(link.clone());
        }
        past.addLast(new Object[] {copy, up, seen.clone()});
        if (past.size() > 8) {
            past.removeFirst();
        }
        tables.clear();
    }

    int fail(int link) {
        if (noLink(link)) {
            return UNKNOWN;
        }
        if ((up >> link & 1) == 0) {
            return NOT;
        }
        keep();
        up -= 1 << link;
        return Integer.bitCount(up);
    }

    int heal(int link) {
        if (noLink(link)) {
            return UNKNOWN;
        }
        if ((up >> link & 1) == 1) {
            return NOT;
        }
        keep();
        up += 1 << link;
        return Integer.bitCount(up);
    }

    int tune(int link, int cost, int delay) {
        if (noLink(link)) {
            return UNKNOWN;
        }
        if (cost < 1 || cost > 9 || delay < 1 || delay > 9) {
            return OUTSIDE;
        }
        keep();
        int had = links.get(link)[2];
        links.get(link)[2] = cost;
        links.get(link)[3] = delay;
        return had;
    }

    int learn(int node) {
        if (noNode(node)) {
            return UNKNOWN;
        }
        keep();
        int had = seen[node];
        seen[node] = up;
        return Integer.bitCount(had ^ up);
    }

    @SuppressWarnings("unchecked")
    int undo() {
        if (past.isEmpty()) {
            return NOT;
        }
        Object[] state = past.removeLast();
        links = (List<int[]>) state[0];
        up = (Integer) state[1];
        seen = (int[]) state[2];
        tables.clear();
        return past.size();
    }

    int seen(int node) {
        return noNode(node) ? UNKNOWN : seen[node];
    }

    // All sums of a set at once, by each node that may lie between.
    private int[][] sums(int kind, int set) {
        int[][][] both = tables.computeIfAbsent(set, k -> new int[2][][]);
        if (both[kind] == null) {
            int[][] far = new int[n][n];
            for (int u = 0; u < n; u++) {
                Arrays.fill(far[u], NO_WAY);
                far[u][u] = 0;
            }
            for (int link = 0; link < links.size(); link++) {
                if ((set >> link & 1) == 1) {
                    int[] told = links.get(link);
                    far[told[0]][told[1]] = far[told[1]][told[0]] = told[2 + kind];
                }
            }
            for (int mid = 0; mid < n; mid++) {
                for (int u = 0; u < n; u++) {
                    for (int v = 0; v < n; v++) {
                        far[u][v] = Math.min(far[u][v], far[u][mid] + far[mid][v]);
                    }
                }
            }
            both[kind] = far;
        }
        return both[kind];
    }

    private int next(int u, int w, int kind, int set) {
        int[][] far = sums(kind, set);
        if (far[u][w] >= NO_WAY) {
            return NONE;
        }
        for (int v = 0; v < n; v++) {
            int link = u == v ? NONE : between(u, v);
            if (link != NONE && (set >> link & 1) == 1 && links.get(link)[2 + kind] + far[v][w] == far[u][w]) {
                return v;
            }
        }
        return NONE;
    }

    private List<Integer> walk(int u, int w, int kind, int set) {
        List<Integer> walked = new ArrayList<>(List.of(u));
        int node = u;
        while (node != w) {
            node = next(node, w, kind, set);
            if (node == NONE) {
                return null;
            }
            walked.add(node);
        }
        return walked;
    }

    int next(int u, int w, int kind) {
        if (noNode(u) || noNode(w)) {
            return UNKNOWN;
        }
        return kind < 0 || kind > 1 ? OUTSIDE : next(u, w, kind, seen[u]);
    }

    int far(int u, int w, int kind) {
        if (noNode(u) || noNode(w)) {
            return UNKNOWN;
        }
        if (kind < 0 || kind > 1) {
            return OUTSIDE;
        }
        int far = sums(kind, seen[u])[u][w];
        return far >= NO_WAY ? NONE : far;
    }

    int space(int u, int link, int which) {
        if (noNode(u) || noLink(link)) {
            return UNKNOWN;
        }
        if (which < 0 || which > 1) {
            return OUTSIDE;
        }
        int set = 0;
        for (int w = 0; w < n; w++) {
            List<Integer> walked = which == 0 ? walk(u, w, 0, seen[u]) : walk(w, u, 0, seen[u]);
            boolean over = walked == null;
            for (int i = 1; walked != null && i < walked.size(); i++) {
                over |= between(walked.get(i - 1), walked.get(i)) == link;
            }
            set |= over ? 0 : 1 << w;
        }
        return set;
    }

    private int rings(int w, int[] held) {
        int set = 0;
        for (int from = 0; from < n; from++) {
            int met = 0;
            int node = from;
            while (node != w && node != NONE && (met >> node & 1) == 0) {
                met |= 1 << node;
                node = next(node, w, 0, held[node]);
            }
            if (node != w && node != NONE) {
                set |= 1 << from;
            }
        }
        return set;
    }

    private boolean anyRings(int[] held) {
        for (int w = 0; w < n; w++) {
            if (rings(w, held) != 0) {
                return true;
            }
        }
        return false;
    }

    int rings(int w) {
        return noNode(w) ? UNKNOWN : rings(w, seen);
    }

    int safe(int node) {
        if (noNode(node)) {
            return UNKNOWN;
        }
        int[] held = seen.clone();
        held[node] = up;
        return anyRings(held) ? 0 : 1;
    }

    private int behind() {
        int set = 0;
        for (int node = 0; node < n; node++) {
            set |= seen[node] == up ? 0 : 1 << node;
        }
        return set;
    }

    private boolean orders(List<Integer> order, int left, int[] held) {
        if (left == 0) {
            return true;
        }
        for (int node = 0; node < n; node++) {
            if ((left >> node & 1) == 1) {
                int had = held[node];
                held[node] = up;
                order.add(node);
                if (!anyRings(held) && orders(order, left - (1 << node), held)) {
                    return true;
                }
                order.remove(order.size() - 1);
                held[node] = had;
            }
        }
        return false;
    }

    private static int kth(List<Integer> row, int k) {
        return k == NONE ? row.size() : k < row.size() ? row.get(k) : NONE;
    }

    int order(int k) {
        if (k < NONE) {
            return OUTSIDE;
        }
        List<Integer> order = new ArrayList<>();
        return orders(order, behind(), seen.clone()) ? kth(order, k) : NOT;
    }

    // ---- lists

    int push(int kind, int what) {
        if (kind < 0 || kind > 2) {
            return OUTSIDE;
        }
        if (kind == 2 ? noLink(what) : noNode(what)) {
            return UNKNOWN;
        }
        if (list.size() == 8) {
            return FULL;
        }
        list.add(new int[] {kind, what});
        return list.size();
    }

    int clear() {
        int had = list.size();
        list.clear();
        return had;
    }

    int segment(int k, int what) {
        if (k < 0 || k >= list.size()) {
            return UNKNOWN;
        }
        return what < 0 || what > 1 ? OUTSIDE : list.get(k)[what];
    }

    // Where a segment leads from a node, the node itself first; null if it leads nowhere.
    private List<Integer> leads(int node, int kind, int what, int set) {
        if (kind < 2) {
            return what == node ? null : walk(node, what, kind, set);
        }
        int[] ends = links.get(what);
        if ((set >> what & 1) == 0 || ends[0] != node && ends[1] != node) {
            return null;
        }
        return List.of(node, ends[0] + ends[1] - node);
    }

    // Rows of three: kind, node or link, how far it leads.
    private void allLists(List<Integer> along, int at, int set, int[] kinds, List<int[]> soFar, List<List<int[]>> all) {
        if (at == along.size() - 1) {
            all.add(new ArrayList<>(soFar));
            return;
        }
        for (int kind : kinds) {
            for (int what = 0; what < (kind == 2 ? links.size() : n); what++) {
                List<Integer> led = leads(along.get(at), kind, what, set);
                int end = led == null ? along.size() : at + led.size() - 1;
                if (end < along.size() && along.subList(at, end + 1).equals(led)) {
                    soFar.add(new int[] {kind, what, led.size()});
                    allLists(along, end, set, kinds, soFar, all);
                    soFar.remove(soFar.size() - 1);
                }
            }
        }
    }

    private static int compare(List<int[]> one, List<int[]> other) {
        if (one.size() != other.size()) {
            return one.size() - other.size();
        }
        for (int i = 0; i < one.size(); i++) {
            if (one.get(i)[2] != other.get(i)[2]) {
                return other.get(i)[2] - one.get(i)[2];
            }
            if (one.get(i)[0] != other.get(i)[0]) {
                return one.get(i)[0] - other.get(i)[0];
            }
        }
        return 0;
    }

    private List<int[]> shortList(List<Integer> along, int set, int... kinds) {
        List<List<int[]>> all = new ArrayList<>();
        allLists(along, 0, set, kinds, new ArrayList<>(), all);
        List<int[]> best = null;
        for (List<int[]> one : all) {
            if (one.size() <= 8 && (best == null || compare(one, best) < 0)) {
                best = one;
            }
        }
        return best;
    }

    private List<int[]> repair(int u, int link, int w) {
        List<Integer> walked = walk(u, w, 0, seen[u] & ~(1 << link));
        return walked == null ? null : shortList(walked, seen[u], 0, 2);
    }

    private static int kthSegment(List<int[]> segments, int k) {
        if (segments == null) {
            return NOT;
        }
        if (k == NONE) {
            return segments.size();
        }
        return k < segments.size() ? 100 * segments.get(k)[0] + segments.get(k)[1] : NONE;
    }

    int repair(int node, int link, int w, int k) {
        if (noNode(node) || noLink(link) || noNode(w) || node == w) {
            return UNKNOWN;
        }
        return k < NONE ? OUTSIDE : kthSegment(repair(node, link, w), k);
    }

    int trace(int node) {
        if (noNode(node)) {
            return UNKNOWN;
        }
        if (trace.contains(node) || !trace.isEmpty() && between(trace.get(trace.size() - 1), node) == NONE) {
            return NOT;
        }
        trace.add(node);
        return trace.size();
    }

    int untrace() {
        int had = trace.size();
        trace.clear();
        return had;
    }

    private List<int[]> brief() {
        return trace.isEmpty() ? null : shortList(trace, seen[trace.get(0)], 0, 1, 2);
    }

    int brief(int k) {
        return k < NONE ? OUTSIDE : kthSegment(brief(), k);
    }

    int adopt() {
        List<int[]> found = brief();
        if (found == null) {
            return NOT;
        }
        list.clear();
        list.addAll(found);
        return list.size();
    }

    // ---- letters

    int protect(int on) {
        if (on < 0 || on > 1) {
            return OUTSIDE;
        }
        int was = protection;
        protection = on;
        return was;
    }

    int send(int node) {
        if (noNode(node)) {
            return UNKNOWN;
        }
        sent++;
        lastMended = 0;
        way = new ArrayList<>(List.of(node));
        int end = carry(new ArrayDeque<>(list));
        there += end >= 0 ? 1 : 0;
        lost += end >= 0 ? 0 : 1;
        mended += lastMended;
        return end;
    }

    private int carry(Deque<int[]> borne) {
        while (true) {
            int u = way.get(way.size() - 1);
            while (!borne.isEmpty() && borne.peekFirst()[0] < 2 && borne.peekFirst()[1] == u) {
                borne.removeFirst();
            }
            if (borne.isEmpty()) {
                return u;
            }
            if (way.size() == 21) {
                return -14;
            }
            int[] top = borne.peekFirst();
            int v;
            int goal;
            if (top[0] < 2) {
                goal = top[1];
                v = next(u, goal, top[0], seen[u]);
                if (v == NONE) {
                    return -11;
                }
            } else {
                int[] ends = links.get(top[1]);
                if (ends[0] != u && ends[1] != u) {
                    return -13;
                }
                v = goal = ends[0] + ends[1] - u;
            }
            int link = between(u, v);
            if ((up >> link & 1) == 1) {
                counts.set(link, counts.get(link) + 1);
                way.add(v);
                if (top[0] == 2) {
                    borne.removeFirst();
                }
                continue;
            }
            List<int[]> round = protection == 1 && lastMended == 0 ? repair(u, link, goal) : null;
            if (round == null) {
                return -12;
            }
            if (top[0] == 2) {
                borne.removeFirst();
            }
            for (int i = round.size() - 1; i >= 0; i--) {
                borne.addFirst(round.get(i));
            }
            lastMended = 1;
        }
    }

    int way(int k) {
        if (k < NONE) {
            return OUTSIDE;
        }
        if (way.isEmpty()) {
            return NONE;
        }
        return k == NONE ? way.size() - 1 : kth(way, k);
    }

    int count(int what) {
        int[] all = {
            n, links.size(), Integer.bitCount(up), Integer.bitCount(behind()), list.size(), trace.size(), protection,
            sent, there, mended, lost, past.size(), text.length(), lastMended
        };
        return what < 0 || what >= all.length ? OUTSIDE : all[what];
    }
}
