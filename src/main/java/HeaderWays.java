import java.util.Arrays;

/**
 * Ways written in the header: nodes and links told in a small text, and letters that bear a list
 * of segments along which each node sends them on by what it has learnt itself.
 */
public final class HeaderWays {
    public static final int NONE = -1, UNKNOWN = -2, OUTSIDE = -3, NOT = -4, FULL = -5;

    private static final int LOST_NO_NEXT = -11, LOST_DOWN = -12, LOST_NO_END = -13, LOST_HOPS = -14;
    private static final int MOST_NODES = 8, MOST_LINKS = 14, MOST_SEGMENTS = 8;
    private static final int MOST_LETTERS = 200, MOST_CLAUSES = 24, MOST_UNDONE = 8, MOST_HOPS = 20;
    private static final int COST = 0, DELAY = 1, OVER_LINK = 2;

    // Above every sum that links can come to (7 of 9 each), so that no sum is taken for it.
    private static final int NO_WAY = 1000;

    private final Net net;
    private final Text text;
    private final Past past;
    private final Routes routes;
    private final Rounds rounds;
    private final Segments list;
    private final Row traced;
    private final Briefs briefs;
    private final Letters letters;

    public HeaderWays() {
        net = new Net();
        text = new Text(net);
        past = new Past(net);
        routes = new Routes(net);
        rounds = new Rounds(net, routes);
        list = new Segments(MOST_SEGMENTS);
        traced = new Row(MOST_NODES);
        briefs = new Briefs(net, routes);
        letters = new Letters(net, routes, briefs);
    }

    // ---- what is told

    public int write(int letter) {
        if (letter < 0 || letter > 255) {
            return OUTSIDE;
        }
        if (text.length >= MOST_LETTERS) {
            return FULL;
        }
        text.addLetter(letter);
        return text.length;
    }

    public int erase() {
        int had = text.length;
        text.length = 0;
        return had;
    }

    public int fault() {
        return text.findFault();
    }

    public int tell() {
        if (text.findFault() != NONE) {
            return NOT;
        }
        for (int clause = 0; clause < text.clauses; clause++) {
            doClause(clause);
        }
        past.size = 0;
        letters.forgetAll();
        Arrays.fill(net.crossed, 0);
        text.length = 0;
        return text.clauses;
    }

    private void doClause(int clause) {
        if (text.tellsNodes(clause)) {
            net.startAnew(text.told(clause, 0));
            list.size = 0;
            traced.length = 0;
            letters.protection = 0;
        } else {
            net.putLink(text.told(clause, 0), text.told(clause, 1), text.told(clause, 2), text.told(clause, 3));
        }
    }

    public int link(int link, int what) {
        if (!net.hasLink(link)) {
            return UNKNOWN;
        }
        switch (what) {
            case 0:
                return net.low[link];
            case 1:
                return net.high[link];
            case 2:
                return net.cost[link];
            case 3:
                return net.delay[link];
            case 4:
                return net.isUp(link) ? 1 : 0;
            case 5:
                return net.crossed[link];
            default:
                return OUTSIDE;
        }
    }

    // ---- the net

    public int fail(int link) {
        if (!net.hasLink(link)) {
            return UNKNOWN;
        }
        return net.isUp(link) ? turn(link) : NOT;
    }

    public int heal(int link) {
        if (!net.hasLink(link)) {
            return UNKNOWN;
        }
        return net.isUp(link) ? NOT : turn(link);
    }

    private int turn(int link) {
        past.keepUp();
        net.up ^= 1 << link;
        return Integer.bitCount(net.up);
    }

    public int tune(int link, int cost, int delay) {
        if (!net.hasLink(link)) {
            return UNKNOWN;
        }
        if (cost < 1 || cost > 9 || delay < 1 || delay > 9) {
            return OUTSIDE;
        }
        int had = net.cost[link];
        past.keepPrices(link);
        net.cost[link] = cost;
        net.delay[link] = delay;
        return had;
    }

    public int learn(int node) {
        if (!net.hasNode(node)) {
            return UNKNOWN;
        }
        int otherwise = Integer.bitCount(net.seen[node] ^ net.up);
        past.keepSeen(node);
        net.seen[node] = net.up;
        return otherwise;
    }

    public int undo() {
        if (past.size == 0) {
            return NOT;
        }
        past.takeBack();
        return past.size;
    }

    public int seen(int node) {
        return net.hasNode(node) ? net.seen[node] : UNKNOWN;
    }

    public int next(int u, int w, int kind) {
        if (!net.hasNode(u) || !net.hasNode(w)) {
            return UNKNOWN;
        }
        if (kind != COST && kind != DELAY) {
            return OUTSIDE;
        }
        routes.measure(w, kind, net.seen[u]);
        return routes.nodeAhead(u);
    }

    public int far(int u, int w, int kind) {
        if (!net.hasNode(u) || !net.hasNode(w)) {
            return UNKNOWN;
        }
        if (kind != COST && kind != DELAY) {
            return OUTSIDE;
        }
        routes.measure(w, kind, net.seen[u]);
        return routes.sumFrom(u);
    }

    public int space(int u, int link, int which) {
        if (!net.hasNode(u) || !net.hasLink(link)) {
            return UNKNOWN;
        }
        if (which != 0 && which != 1) {
            return OUTSIDE;
        }
        int spared = 0;
        for (int node = 0; node < net.nodes; node++) {
            int from = which == 0 ? u : node;
            int to = which == 0 ? node : u;
            if (routes.walkSpares(from, to, net.seen[u], link)) {
                spared |= 1 << node;
            }
        }
        return spared;
    }

    public int rings(int w) {
        if (!net.hasNode(w)) {
            return UNKNOWN;
        }
        rounds.lookTowards(w);
        return rounds.ringsOf(w, 0);
    }

    public int safe(int node) {
        if (!net.hasNode(node)) {
            return UNKNOWN;
        }
        rounds.lookAround();
        return rounds.hasRings(1 << node) ? 0 : 1;
    }

    public int order(int k) {
        if (k < NONE) {
            return OUTSIDE;
        }
        return rounds.findOrder() ? rounds.order.told(k) : NOT;
    }

    // ---- lists

    public int push(int kind, int what) {
        if (kind < COST || kind > OVER_LINK) {
            return OUTSIDE;
        }
        if (kind == OVER_LINK ? !net.hasLink(what) : !net.hasNode(what)) {
            return UNKNOWN;
        }
        if (list.size >= MOST_SEGMENTS) {
            return FULL;
        }
        list.put(kind, what);
        return list.size;
    }

    public int clear() {
        int had = list.size;
        list.size = 0;
        return had;
    }

    public int segment(int k, int what) {
        if (k < 0 || k >= list.size) {
            return UNKNOWN;
        }
        if (what != 0 && what != 1) {
            return OUTSIDE;
        }
        return what == 0 ? list.kinds[k] : list.whats[k];
    }

    public int repair(int node, int link, int w, int k) {
        if (!net.hasNode(node) || !net.hasLink(link) || !net.hasNode(w) || w == node) {
            return UNKNOWN;
        }
        if (k < NONE) {
            return OUTSIDE;
        }
        return briefs.findRepair(node, link, w) ? briefs.found.told(k) : NOT;
    }

    public int trace(int node) {
        if (!net.hasNode(node)) {
            return UNKNOWN;
        }
        int last = traced.last();
        if (traced.has(node) || last != NONE && net.linkBetween(last, node) == NONE) {
            return NOT;
        }
        if (traced.length >= MOST_NODES) {
            return FULL;
        }
        traced.put(node);
        return traced.length;
    }

    public int untrace() {
        int had = traced.length;
        traced.length = 0;
        return had;
    }

    public int brief(int k) {
        if (k < NONE) {
            return OUTSIDE;
        }
        return briefs.findBrief(traced) ? briefs.found.told(k) : NOT;
    }

    public int adopt() {
        if (!briefs.findBrief(traced)) {
            return NOT;
        }
        list.takeOver(briefs.found);
        return list.size;
    }

    // ---- letters

    public int protect(int on) {
        if (on != 0 && on != 1) {
            return OUTSIDE;
        }
        int was = letters.protection;
        letters.protection = on;
        return was;
    }

    public int send(int node) {
        if (!net.hasNode(node)) {
            return UNKNOWN;
        }
        letters.start(node, list);
        int outcome = letters.carry(node);
        letters.noteEnd(outcome);
        return outcome;
    }

    public int way(int k) {
        if (k < NONE) {
            return OUTSIDE;
        }
        if (letters.sent == 0) {
            return NONE;
        }
        return k == NONE ? letters.hops() : letters.passed.told(k);
    }

    public int count(int what) {
        switch (what) {
            case 0:
                return net.nodes;
            case 1:
                return net.links;
            case 2:
                return Integer.bitCount(net.up);
            case 3:
                return Integer.bitCount(net.behind());
            case 4:
                return list.size;
            case 5:
                return traced.length;
            case 11:
                return past.size;
            case 12:
                return text.length;
            default:
                return letters.tally(what);
        }
    }

    /** The nodes and links as they are, and what each node holds of them. */
    private static final class Net {
        int nodes = 2;
        int links = 0;
        int up = 0;
        final int[] low = new int[MOST_LINKS];
        final int[] high = new int[MOST_LINKS];
        final int[] cost = new int[MOST_LINKS];
        final int[] delay = new int[MOST_LINKS];
        final int[] crossed = new int[MOST_LINKS];
        final int[] seen = new int[MOST_NODES];

        static long pairOf(int u, int v) {
            return 1L << (Math.min(u, v) * MOST_NODES + Math.max(u, v));
        }

        long pairsWithLinks() {
            long pairs = 0;
            for (int link = 0; link < links; link++) {
                pairs |= pairOf(low[link], high[link]);
            }
            return pairs;
        }

        boolean hasNode(int node) {
            return node >= 0 && node < nodes;
        }

        boolean hasLink(int link) {
            return link >= 0 && link < links;
        }

        boolean isUp(int link) {
            return (up >> link & 1) == 1;
        }

        int otherEnd(int link, int node) {
            if (!hasLink(link)) {
                return NONE;
            }
            if (low[link] == node) {
                return high[link];
            }
            return high[link] == node ? low[link] : NONE;
        }

        int linkBetween(int u, int v) {
            for (int link = 0; link < links; link++) {
                if (low[link] == u && high[link] == v || low[link] == v && high[link] == u) {
                    return link;
                }
            }
            return NONE;
        }

        int behind() {
            int late = 0;
            for (int node = 0; node < nodes; node++) {
                if (seen[node] != up) {
                    late |= 1 << node;
                }
            }
            return late;
        }

        void startAnew(int newNodes) {
            nodes = newNodes;
            links = 0;
            up = 0;
            Arrays.fill(seen, 0);
        }

        void putLink(int u, int v, int newCost, int newDelay) {
            int link = linkBetween(u, v);
            if (link == NONE) {
                link = addLink(u, v);
            }
            if (link != NONE) {
                cost[link] = newCost;
                delay[link] = newDelay;
            }
        }

        private int addLink(int u, int v) {
            if (links >= MOST_LINKS) {
                return NONE;
            }
            int link = links;
            low[link] = Math.min(u, v);
            high[link] = Math.max(u, v);
            up |= 1 << link;
            for (int node = 0; node < nodes; node++) {
                seen[node] |= 1 << link;
            }
            links++;
            return link;
        }
    }

    /** The text, and the reading of it to its first fault. */
    private static final class Text {
        private static final int NUMBERS = 4;

        private final Net net;
        private final int[] letters = new int[MOST_LETTERS];
        int length = 0;
        int clauses = 0;
        // Four numbers a clause; behind that of a clause of nodes there is only NONE.
        private final int[] numbers = new int[MOST_CLAUSES * NUMBERS];
        // The token read last: from begin to ahead of end.
        private int begin = 0;
        private int end = 0;
        // The nodes and pairs with links as they would be behind the clauses read so far.
        private int nodes = 0;
        private long pairs = 0;

        Text(Net net) {
            this.net = net;
        }

        void addLetter(int letter) {
            if (length < MOST_LETTERS) {
                letters[length] = letter;
                length++;
            }
        }

        boolean tellsNodes(int clause) {
            return told(clause, 1) == NONE;
        }

        int told(int clause, int which) {
            return numbers[clause * NUMBERS + which];
        }

        int findFault() {
            nodes = net.nodes;
            pairs = net.pairsWithLinks();
            end = 0;
            clauses = 0;
            for (int clause = 0; clause < MOST_CLAUSES; clause++) {
                if (clause > 0 && !readSign(';') || !readClause(clause)) {
                    return begin;
                }
                clauses = clause + 1;
                if (skipBlanks(end) >= length) {
                    return NONE;
                }
            }
            readToken();
            return begin;
        }

        private boolean readClause(int clause) {
            readToken();
            if (isWord("nodes")) {
                return readNodes(clause);
            }
            return isWord("link") && readLink(clause);
        }

        private boolean readNodes(int clause) {
            int told = readNumber(2, MOST_NODES);
            if (told == NONE) {
                return false;
            }
            nodes = told;
            pairs = 0;
            keep(clause, told, NONE, NONE, NONE);
            return true;
        }

        private boolean readLink(int clause) {
            int u = readNumber(0, nodes - 1);
            if (u == NONE) {
                return false;
            }
            int v = readNumber(0, nodes - 1);
            if (v == NONE || v == u || isTooMany(Net.pairOf(u, v))) {
                return false;
            }
            int cost = readNumber(1, 9);
            if (cost == NONE) {
                return false;
            }
            int delay = readNumber(1, 9);
            if (delay == NONE) {
                return false;
            }
            pairs |= Net.pairOf(u, v);
            keep(clause, u, v, cost, delay);
            return true;
        }

        private boolean isTooMany(long pair) {
            return (pairs & pair) == 0 && Long.bitCount(pairs) >= MOST_LINKS;
        }

        private void keep(int clause, int first, int second, int third, int fourth) {
            int place = clause * NUMBERS;
            numbers[place] = first;
            numbers[place + 1] = second;
            numbers[place + 2] = third;
            numbers[place + 3] = fourth;
        }

        private boolean readSign(char sign) {
            readToken();
            return end - begin == 1 && letters[begin] == sign;
        }

        private int readNumber(int least, int most) {
            readToken();
            if (end - begin != 1) {
                return NONE;
            }
            int number = letters[begin] - '0';
            return number >= least && number <= most ? number : NONE;
        }

        private boolean isWord(String word) {
            if (end - begin != word.length()) {
                return false;
            }
            for (int i = 0; i < word.length(); i++) {
                if (letters[begin + i] != word.charAt(i)) {
                    return false;
                }
            }
            return true;
        }

        // At the end of the text the token has no letters and begins at the length.
        private void readToken() {
            begin = skipBlanks(end);
            end = begin;
            if (begin >= length) {
                return;
            }
            int row = rowOf(letters[begin]);
            end++;
            while (row != 0 && end < length && rowOf(letters[end]) == row) {
                end++;
            }
        }

        private int skipBlanks(int from) {
            int place = from;
            while (place < length && letters[place] == ' ') {
                place++;
            }
            return place;
        }

        // 1 a small letter, 2 a digit, 0 any other, which is a token by itself.
        private static int rowOf(int letter) {
            if (letter >= 'a' && letter <= 'z') {
                return 1;
            }
            return letter >= '0' && letter <= '9' ? 2 : 0;
        }
    }

    /** What the latest changes of the net found, so that they can be undone. */
    private static final class Past {
        private static final int UP = 0, PRICES = 1, SEEN = 2;

        private final Net net;
        // Rows of the last changes, the place of the next one going round and round.
        private final int[] changes = new int[MOST_UNDONE];
        private final int[] places = new int[MOST_UNDONE];
        private final int[] firsts = new int[MOST_UNDONE];
        private final int[] seconds = new int[MOST_UNDONE];
        private int ahead = 0;
        int size = 0;

        Past(Net net) {
            this.net = net;
        }

        void keepUp() {
            keep(UP, 0, net.up, 0);
        }

        void keepPrices(int link) {
            keep(PRICES, link, net.cost[link], net.delay[link]);
        }

        void keepSeen(int node) {
            keep(SEEN, node, net.seen[node], 0);
        }

        private void keep(int change, int place, int first, int second) {
            changes[ahead] = change;
            places[ahead] = place;
            firsts[ahead] = first;
            seconds[ahead] = second;
            ahead = ahead + 1 < MOST_UNDONE ? ahead + 1 : 0;
            size = Math.min(size + 1, MOST_UNDONE);
        }

        void takeBack() {
            ahead = ahead > 0 ? ahead - 1 : MOST_UNDONE - 1;
            size--;
            int place = places[ahead];
            if (changes[ahead] == UP) {
                net.up = firsts[ahead];
            } else if (changes[ahead] == PRICES) {
                net.cost[place] = firsts[ahead];
                net.delay[place] = seconds[ahead];
            } else {
                net.seen[place] = firsts[ahead];
            }
        }
    }

    /** A row of nodes. */
    private static final class Row {
        final int[] nodes;
        int length = 0;

        Row(int most) {
            nodes = new int[Math.max(most, 0)];
        }

        void put(int node) {
            if (length < nodes.length) {
                nodes[length] = node;
                length++;
            }
        }

        int last() {
            return length == 0 ? NONE : nodes[length - 1];
        }

        boolean has(int node) {
            for (int i = 0; i < length; i++) {
                if (nodes[i] == node) {
                    return true;
                }
            }
            return false;
        }

        void takeOver(Row other) {
            length = 0;
            for (int i = 0; i < other.length; i++) {
                put(other.nodes[i]);
            }
        }

        int told(int k) {
            if (k == NONE) {
                return length;
            }
            return k >= 0 && k < length ? nodes[k] : NONE;
        }
    }

    /** A row of segments; a letter has its topmost one at the end of it. */
    private static final class Segments {
        final int[] kinds;
        final int[] whats;
        int size = 0;

        Segments(int most) {
            kinds = new int[Math.max(most, 0)];
            whats = new int[Math.max(most, 0)];
        }

        void put(int kind, int what) {
            if (size < kinds.length) {
                kinds[size] = kind;
                whats[size] = what;
                size++;
            }
        }

        void takeOver(Segments other) {
            size = 0;
            for (int i = 0; i < other.size; i++) {
                put(other.kinds[i], other.whats[i]);
            }
        }

        void putOnTop(Segments other) {
            for (int i = other.size - 1; i >= 0; i--) {
                put(other.kinds[i], other.whats[i]);
            }
        }

        int topKind() {
            return size == 0 ? NONE : kinds[size - 1];
        }

        int topWhat() {
            return size == 0 ? NONE : whats[size - 1];
        }

        boolean isTopTo(int node) {
            return size > 0 && kinds[size - 1] != OVER_LINK && whats[size - 1] == node;
        }

        void dropTop() {
            if (size > 0) {
                size--;
            }
        }

        int told(int k) {
            if (k == NONE) {
                return size;
            }
            return k >= 0 && k < size ? 100 * kinds[k] + whats[k] : NONE;
        }
    }

    /** How far it is from each node to a goal, and where it goes on, as measured last. */
    private static final class Routes {
        private final Net net;
        private final int[] sums = new int[MOST_NODES];
        private final int[] nodesAhead = new int[MOST_NODES];
        private final int[] linksAhead = new int[MOST_NODES];

        Routes(Net net) {
            this.net = net;
        }

        void measure(int goal, int kind, int set) {
            int[] prices = kind == COST ? net.cost : net.delay;
            startFrom(goal);
            // A least way has fewer links than there are nodes, so as many rounds find it.
            for (int round = 1; round < net.nodes; round++) {
                for (int link = 0; link < net.links; link++) {
                    if ((set >> link & 1) == 1) {
                        shorten(net.low[link], net.high[link], prices[link]);
                        shorten(net.high[link], net.low[link], prices[link]);
                    }
                }
            }
            for (int link = 0; link < net.links; link++) {
                if ((set >> link & 1) == 1) {
                    leadOn(net.low[link], net.high[link], link, prices[link]);
                    leadOn(net.high[link], net.low[link], link, prices[link]);
                }
            }
        }

        private void startFrom(int goal) {
            for (int node = 0; node < MOST_NODES; node++) {
                sums[node] = node == goal ? 0 : NO_WAY;
                nodesAhead[node] = NONE;
                linksAhead[node] = NONE;
            }
        }

        private void shorten(int node, int end, int price) {
            if (sums[end] + price < sums[node]) {
                sums[node] = sums[end] + price;
            }
        }

        private void leadOn(int node, int end, int link, int price) {
            boolean least = sums[end] + price == sums[node];
            if (least && (nodesAhead[node] == NONE || end < nodesAhead[node])) {
                nodesAhead[node] = end;
                linksAhead[node] = link;
            }
        }

        int sumFrom(int node) {
            return node >= 0 && node < MOST_NODES && sums[node] < NO_WAY ? sums[node] : NONE;
        }

        int nodeAhead(int node) {
            return node >= 0 && node < MOST_NODES ? nodesAhead[node] : NONE;
        }

        int linkAhead(int node) {
            return node >= 0 && node < MOST_NODES ? linksAhead[node] : NONE;
        }

        boolean walkSpares(int from, int to, int links, int spared) {
            measure(to, COST, links);
            int node = from;
            for (int step = 0; step < MOST_NODES && node != to; step++) {
                if (nodesAhead[node] == NONE || linksAhead[node] == spared) {
                    return false;
                }
                node = nodesAhead[node];
            }
            return node == to;
        }

        boolean findWalk(int from, int to, int links, Row walk) {
            measure(to, COST, links);
            walk.length = 0;
            walk.put(from);
            int node = from;
            for (int step = 0; step < MOST_NODES && node != to; step++) {
                if (nodesAhead[node] == NONE) {
                    return false;
                }
                node = nodesAhead[node];
                walk.put(node);
            }
            return node == to;
        }
    }

    /** Where letters would go round and round, and an order of learning in which none do. */
    private static final class Rounds {
        // Each learning comes to another set of nodes, and none is left more than once.
        private static final int MOST_TURNS = 1 << (MOST_NODES + 1);

        private final Net net;
        private final Routes routes;
        // The node ahead by what a node has seen, and by what is up: a row of nodes for each goal.
        private final int[] aheadSeen = new int[MOST_NODES * MOST_NODES];
        private final int[] aheadUp = new int[MOST_NODES * MOST_NODES];
        // Sets of nodes from which, when they have learnt, no order leads on.
        private final boolean[] closed = new boolean[1 << MOST_NODES];
        final Row order = new Row(MOST_NODES);

        Rounds(Net net, Routes routes) {
            this.net = net;
            this.routes = routes;
        }

        void lookAround() {
            for (int goal = 0; goal < net.nodes; goal++) {
                lookTowards(goal);
            }
        }

        void lookTowards(int goal) {
            int row = goal * MOST_NODES;
            routes.measure(goal, COST, net.up);
            for (int node = 0; node < net.nodes; node++) {
                aheadUp[row + node] = routes.nodeAhead(node);
            }
            for (int node = 0; node < net.nodes; node++) {
                aheadSeen[row + node] = aheadUp[row + node];
                if (net.seen[node] != net.up) {
                    routes.measure(goal, COST, net.seen[node]);
                    aheadSeen[row + node] = routes.nodeAhead(node);
                }
            }
        }

        boolean hasRings(int learnt) {
            for (int goal = 0; goal < net.nodes; goal++) {
                if (ringsOf(goal, learnt) != 0) {
                    return true;
                }
            }
            return false;
        }

        int ringsOf(int goal, int learnt) {
            int rings = 0;
            for (int node = 0; node < net.nodes; node++) {
                if (goesRound(node, goal, learnt)) {
                    rings |= 1 << node;
                }
            }
            return rings;
        }

        // Who has not come to an end in as many steps as there are nodes has met one again.
        private boolean goesRound(int from, int goal, int learnt) {
            int node = from;
            for (int step = 0; step < net.nodes && node != goal && node != NONE; step++) {
                int place = goal * MOST_NODES + node;
                node = (learnt >> node & 1) == 1 ? aheadUp[place] : aheadSeen[place];
            }
            return node != goal && node != NONE;
        }

        boolean findOrder() {
            int behind = net.behind();
            int learnt = 0;
            lookAround();
            order.length = 0;
            for (int set = 0; set < closed.length; set++) {
                closed[set] = false;
            }
            for (int turn = 0; turn < MOST_TURNS && learnt != behind; turn++) {
                int node = firstToLearn(behind, learnt);
                if (node != NONE) {
                    order.put(node);
                    learnt |= 1 << node;
                } else if (order.length > 0) {
                    closed[learnt] = true;
                    learnt &= ~(1 << order.last());
                    order.length--;
                } else {
                    return false;
                }
            }
            return learnt == behind;
        }

        private int firstToLearn(int behind, int learnt) {
            for (int node = 0; node < net.nodes; node++) {
                int then = learnt | 1 << node;
                if ((behind >> node & 1) == 1 && then != learnt && !closed[then]) {
                    if (!hasRings(then)) {
                        return node;
                    }
                    closed[then] = true;
                }
            }
            return NONE;
        }
    }

    /** The fewest segments that lead along a way just so. */
    private static final class Briefs {
        private final Net net;
        private final Routes routes;
        private final Row way = new Row(MOST_NODES);
        // For each place of the way: from which place on the walk to it goes along the way.
        private final int[] alongCost = new int[MOST_NODES];
        private final int[] alongDelay = new int[MOST_NODES];
        // For each place: the link to the next one, if it is of the set.
        private final int[] linksOn = new int[MOST_NODES];
        // For each place: how few segments lead from it to the end, and the first of them.
        private final int[] fewest = new int[MOST_NODES];
        private final int[] goals = new int[MOST_NODES];
        private final int[] kinds = new int[MOST_NODES];
        final Segments found = new Segments(MOST_SEGMENTS);

        Briefs(Net net, Routes routes) {
            this.net = net;
            this.routes = routes;
        }

        boolean findRepair(int node, int link, int to) {
            int set = net.seen[node];
            return routes.findWalk(node, to, set & ~(1 << link), way) && shorten(set, false);
        }

        boolean findBrief(Row traced) {
            way.takeOver(traced);
            return way.length > 0 && shorten(net.seen[way.nodes[0]], true);
        }

        private boolean shorten(int set, boolean byDelay) {
            for (int place = 0; place < way.length; place++) {
                routes.measure(way.nodes[place], COST, set);
                alongCost[place] = followedFrom(place);
                alongDelay[place] = place;
                if (byDelay) {
                    routes.measure(way.nodes[place], DELAY, set);
                    alongDelay[place] = followedFrom(place);
                }
            }
            int last = way.length - 1;
            fewest[last] = 0;
            for (int place = last - 1; place >= 0; place--) {
                linksOn[place] = linkIn(set, way.nodes[place], way.nodes[place + 1]);
                chooseFirst(place);
            }
            if (fewest[0] >= NO_WAY) {
                return false;
            }
            writeFound();
            return true;
        }

        private int followedFrom(int goal) {
            int place = goal;
            while (place > 0 && routes.nodeAhead(way.nodes[place - 1]) == way.nodes[place]) {
                place--;
            }
            return place;
        }

        // The furthest goals come first, so that of like counts theirs is kept.
        private void chooseFirst(int place) {
            fewest[place] = NO_WAY;
            for (int goal = way.length - 1; goal > place; goal--) {
                int kind = lowestKind(place, goal);
                if (kind != NONE && fewest[goal] + 1 < fewest[place]) {
                    fewest[place] = fewest[goal] + 1;
                    goals[place] = goal;
                    kinds[place] = kind;
                }
            }
        }

        private int lowestKind(int place, int goal) {
            if (alongCost[goal] <= place) {
                return COST;
            }
            if (alongDelay[goal] <= place) {
                return DELAY;
            }
            return goal == place + 1 && linksOn[place] != NONE ? OVER_LINK : NONE;
        }

        private int linkIn(int set, int u, int v) {
            int link = net.linkBetween(u, v);
            return link != NONE && (set >> link & 1) == 1 ? link : NONE;
        }

        private void writeFound() {
            found.size = 0;
            int place = 0;
            for (int i = 0; i < MOST_NODES && place < way.length - 1; i++) {
                boolean over = kinds[place] == OVER_LINK;
                found.put(kinds[place], over ? linksOn[place] : way.nodes[goals[place]]);
                place = goals[place];
            }
        }
    }

    /** The letters sent, and the carrying of one. */
    private static final class Letters {
        private final Net net;
        private final Routes routes;
        private final Briefs briefs;
        // A letter is mended once, with segments for a walk of all nodes at most.
        private final Segments borne = new Segments(MOST_SEGMENTS + MOST_NODES);
        final Row passed = new Row(MOST_HOPS + 1);
        int protection = 0;
        int sent = 0;
        private int there = 0;
        private int mended = 0;
        private int lost = 0;
        private boolean lastMended = false;

        Letters(Net net, Routes routes, Briefs briefs) {
            this.net = net;
            this.routes = routes;
            this.briefs = briefs;
        }

        void forgetAll() {
            sent = 0;
            there = 0;
            mended = 0;
            lost = 0;
            lastMended = false;
            passed.length = 0;
        }

        int hops() {
            return passed.length - 1;
        }

        int tally(int what) {
            switch (what) {
                case 6:
                    return protection;
                case 7:
                    return sent;
                case 8:
                    return there;
                case 9:
                    return mended;
                case 10:
                    return lost;
                case 13:
                    return lastMended ? 1 : 0;
                default:
                    return OUTSIDE;
            }
        }

        void start(int from, Segments list) {
            borne.size = 0;
            borne.putOnTop(list);
            passed.length = 0;
            passed.put(from);
            lastMended = false;
            sent++;
        }

        void noteEnd(int outcome) {
            if (outcome >= 0) {
                there++;
            } else {
                lost++;
            }
        }

        int carry(int from) {
            int node = from;
            // A turn for each hop, one for the mending, one for the end.
            for (int turn = 0; turn < MOST_HOPS + 2; turn++) {
                takeOffReached(node);
                if (borne.size == 0) {
                    return node;
                }
                if (hops() >= MOST_HOPS) {
                    return LOST_HOPS;
                }
                int link = linkAhead(node);
                if (link < 0) {
                    return link;
                }
                if (net.isUp(link)) {
                    node = crossLink(link, node);
                } else if (!mend(node, link)) {
                    return LOST_DOWN;
                }
            }
            return LOST_HOPS;
        }

        private void takeOffReached(int node) {
            for (int left = borne.size; left > 0 && borne.isTopTo(node); left--) {
                borne.dropTop();
            }
        }

        private int linkAhead(int node) {
            int what = borne.topWhat();
            if (borne.topKind() == OVER_LINK) {
                return net.otherEnd(what, node) == NONE ? LOST_NO_END : what;
            }
            routes.measure(what, borne.topKind(), net.seen[node]);
            int link = routes.linkAhead(node);
            return link == NONE ? LOST_NO_NEXT : link;
        }

        private int crossLink(int link, int node) {
            if (borne.topKind() == OVER_LINK) {
                borne.dropTop();
            }
            int end = net.otherEnd(link, node);
            net.crossed[link]++;
            passed.put(end);
            return end;
        }

        private boolean mend(int node, int link) {
            if (protection == 0 || lastMended) {
                return false;
            }
            boolean over = borne.topKind() == OVER_LINK;
            int to = over ? net.otherEnd(link, node) : borne.topWhat();
            if (!briefs.findRepair(node, link, to)) {
                return false;
            }
            if (over) {
                borne.dropTop();
            }
            borne.putOnTop(briefs.found);
            lastMended = true;
            mended++;
            return true;
        }
    }
}
