import java.util.ArrayList;
import java.util.Arrays;
import java.util.HashMap;
import java.util.List;
import java.util.Map;
import java.util.TreeMap;

/**
 * The document read a second time, with the Java library and without a thought of room: what is
 * sent is copied, THE LAW is a tree of functions, what is KEPT or tried is a whole new state.
 * ModelTest holds it against TermLog.
 */
final class Model {
    static final int NONE = -1;

    record Entry(int term, int kind, int a, int b) {}

    record Config(int olds, int news) {
        int members() {
            return olds | news;
        }

        boolean majority(int some) {
            return half(some, olds) && (news == 0 || half(some, news));
        }

        private static boolean half(int some, int of) {
            int all = 0;
            int in = 0;
            for (int n = 0; n < 7; n++) {
                if ((of >> n & 1) == 0) continue;
                all++;
                if ((some >> n & 1) == 1) in++;
            }
            return in > all / 2;
        }
    }

    record Snap(int index, int term, Config config, List<Integer> keys) {}

    /** All that a MESSAGE of any KIND tells; what its KIND does not tell is 0, empty or null. */
    record Msg(int from, int to, int kind, int term, int due, int last, int lastTerm, int yes,
            int index, int round, int commit, List<Entry> entries, Snap snap) {
        Msg due(int tick) {
            return new Msg(from, to, kind, term, tick, last, lastTerm, yes, index, round, commit,
                    entries, snap);
        }
    }

    record Read(int state, int node, int key, int round, int due, int value) {}

    static final class Node {
        int id;
        boolean up = true;
        int term;
        int vote = -2;
        TreeMap<Integer, Entry> log = new TreeMap<>();
        Snap snap;
        int role;
        int commit;
        List<Integer> keys;
        int timer;
        int known = -2;
        int votes;
        int[] next = new int[7];
        int[] match = new int[7];
        int[] heard = new int[7];
        int round;
        int heart;

        Node copy() {
            Node c = new Node();
            c.id = id;
            c.up = up;
            c.term = term;
            c.vote = vote;
            c.log = new TreeMap<>(log);
            c.snap = snap;
            c.role = role;
            c.commit = commit;
            c.keys = new ArrayList<>(keys);
            c.timer = timer;
            c.known = known;
            c.votes = votes;
            c.next = next.clone();
            c.match = match.clone();
            c.heard = heard.clone();
            c.round = round;
            c.heart = heart;
            return c;
        }

        int last() {
            return log.isEmpty() ? snap.index : log.lastKey();
        }

        int termAt(int index) {
            if (index == snap.index) return snap.term;
            return log.containsKey(index) ? log.get(index).term : 0;
        }

        int configIndex(int upTo) {
            int found = snap.index;
            for (Map.Entry<Integer, Entry> e : log.headMap(upTo, true).entrySet()) {
                if (e.getValue().kind == 1) found = e.getKey();
            }
            return found;
        }

        Config configUpTo(int upTo) {
            int at = configIndex(upTo);
            if (at == snap.index) return snap.config;
            return new Config(log.get(at).a, log.get(at).b);
        }

        Config config() {
            return configUpTo(last());
        }

        boolean member() {
            return (config().members() >> id & 1) == 1;
        }

        void compact() {
            Snap s = new Snap(commit, termAt(commit), configUpTo(commit), List.copyOf(keys));
            log.headMap(commit, true).clear();
            snap = s;
        }

        boolean lay(Entry e) {
            if (log.size() == 48) compact();
            if (log.size() == 48 || last() == 999) return false;
            log.put(last() + 1, e);
            return true;
        }

        boolean leader() {
            return up && role == 2;
        }
    }

    static final class State {
        int tick;
        int x;
        Node[] nodes = new Node[7];
        List<Msg> way = new ArrayList<>();
        List<Read> reads = new ArrayList<>();
        TreeMap<Integer, Entry> held = new TreeMap<>();
        Map<Integer, Integer> leaders = new HashMap<>();
        boolean[][] cut = new boolean[7][7];
        int broken;
        int lost;

        State copy() {
            State c = new State();
            c.tick = tick;
            c.x = x;
            for (int n = 0; n < 7; n++) c.nodes[n] = nodes[n].copy();
            c.way = new ArrayList<>(way);
            c.reads = new ArrayList<>(reads);
            c.held = new TreeMap<>(held);
            c.leaders = new HashMap<>(leaders);
            for (int n = 0; n < 7; n++) c.cut[n] = cut[n].clone();
            c.broken = broken;
            c.lost = lost;
            return c;
        }
    }

    // THE LAW as a tree of functions.

    static final class Refused extends RuntimeException {
        Refused() {
            super(null, null, false, false);
        }
    }

    static final class Fault extends RuntimeException {
        final int answer;

        Fault(int number, int place) {
            super(null, null, false, false);
            answer = -1000 * number - place;
        }
    }

    interface Sum {
        int of(int[] given);
    }

    interface Test {
        boolean of(int[] given);
    }

    record Rule(char letter, Sum sum, Test test) {}

    static final class LawText {
        final int[] text;
        int at;

        LawText(int[] text) {
            this.text = text;
        }

        int peek() {
            return at < text.length ? text[at] : -1;
        }

        void must(int c) {
            if (peek() != c) throw new Fault(1, at);
            at++;
        }

        List<Rule> rules() {
            List<Rule> rules = new ArrayList<>();
            while (true) {
                int letter = peek();
                if (letter < 0 || "dlex".indexOf(letter) < 0) throw new Fault(1, at);
                if (rules.size() == 16) throw new Fault(4, at);
                at++;
                Sum sum = letter == 'x' ? given -> 1 : sum(0);
                must('(');
                Test test = either(1);
                must(')');
                rules.add(new Rule((char) letter, sum, test));
                if (at == text.length) return rules;
                must(';');
            }
        }

        Test either(int open) {
            List<Test> parts = new ArrayList<>();
            parts.add(all(open));
            while (peek() == '|') {
                at++;
                parts.add(all(open));
            }
            return given -> parts.stream().anyMatch(t -> t.of(given));
        }

        Test all(int open) {
            List<Test> parts = new ArrayList<>();
            parts.add(one(open));
            while (peek() == '&') {
                at++;
                parts.add(one(open));
            }
            return given -> parts.stream().allMatch(t -> t.of(given));
        }

        void open(int open) {
            if (open == 6) throw new Fault(5, at);
            at++;
        }

        Test one(int open) {
            if (peek() == '!') {
                open(open);
                Test inner = one(open + 1);
                return given -> !inner.of(given);
            }
            if (peek() == '(') {
                open(open);
                Test inner = either(open + 1);
                must(')');
                return inner;
            }
            Sum left = sum(open);
            int how = peek();
            if (how != '<' && how != '>' && how != '=') throw new Fault(1, at);
            at++;
            Sum right = sum(open);
            return given -> {
                int l = left.of(given);
                int r = right.of(given);
                return how == '<' ? l < r : how == '>' ? l > r : l == r;
            };
        }

        Sum sum(int open) {
            Sum all = product(open);
            while (peek() == '+' || peek() == '-') {
                boolean plus = peek() == '+';
                at++;
                Sum l = all;
                Sum r = product(open);
                all = given -> plus ? l.of(given) + r.of(given) : l.of(given) - r.of(given);
            }
            return all;
        }

        Sum product(int open) {
            Sum all = factor(open);
            while (peek() == '*' || peek() == '/' || peek() == '%') {
                int how = peek();
                at++;
                Sum l = all;
                Sum r = factor(open);
                all = given -> {
                    int a = l.of(given);
                    int b = r.of(given);
                    if (how == '*') return a * b;
                    if (b == 0) throw new Refused();
                    return how == '/' ? a / b : a % b;
                };
            }
            return all;
        }

        Sum factor(int open) {
            int c = peek();
            if (c == '[') {
                open(open);
                Sum inner = sum(open + 1);
                must(']');
                return inner;
            }
            if (c >= '0' && c <= '9') {
                int from = at;
                int number = 0;
                while (peek() >= '0' && peek() <= '9') {
                    if (at - from == 5) throw new Fault(2, at);
                    number = 10 * number + peek() - '0';
                    at++;
                }
                int worth = number;
                return given -> worth;
            }
            int which = c < 0 ? -1 : "ftknqsw".indexOf(c);
            if (which < 0) throw new Fault(1, at);
            at++;
            return given -> given[which];
        }
    }

    // A PLAN as a list of ACTS.

    static final class PlanText {
        final int[] text;
        int at;
        final List<int[]> acts = new ArrayList<>();

        PlanText(int[] text) {
            this.text = text;
        }

        int peek() {
            return at < text.length ? text[at] : -1;
        }

        int digit(int most) {
            int c = peek();
            if (c < '0' || c > '0' + most) throw new Fault(1, at);
            at++;
            return c - '0';
        }

        List<int[]> all() {
            while (at < text.length) act(0);
            return acts;
        }

        void act(int open) {
            int start = at;
            int times = 1;
            if (peek() >= '2' && peek() <= '9') times = digit(9);
            int from = acts.size();
            if (peek() == '(') {
                if (open == 2) throw new Fault(5, at);
                at++;
                do {
                    act(open + 1);
                } while (peek() != ')');
                at++;
            } else {
                acts.add(single());
            }
            List<int[]> done = new ArrayList<>(acts.subList(from, acts.size()));
            for (int i = 1; i < times; i++) acts.addAll(done);
            if (acts.size() > 200) throw new Fault(6, start);
        }

        int[] single() {
            int c = peek();
            if (c < 0 || ".kucwrxj".indexOf(c) < 0) throw new Fault(1, at);
            at++;
            if (c == '.') return new int[] {c};
            int one = digit(6);
            if (c == 'k' || c == 'u' || c == 'c') return new int[] {c, one};
            if (c == 'w') return new int[] {c, one, digit(7), digit(9)};
            if (c == 'r') return new int[] {c, one, digit(7)};
            int two = digit(6);
            if (two == one) throw new Fault(7, at - 1);
            return new int[] {c, one, two};
        }
    }

    State s = new State();
    State kept;
    List<Rule> law = new ArrayList<>();
    List<Integer> tape = new ArrayList<>();

    Model() {
        s.x = 1;
        founded(7);
    }

    private void founded(int some) {
        int x = s.x;
        s = new State();
        s.x = x;
        for (int n = 0; n < 7; n++) {
            Node node = new Node();
            node.id = n;
            node.snap = new Snap(0, 0, new Config(some, 0), List.of(0, 0, 0, 0, 0, 0, 0, 0));
            node.keys = new ArrayList<>(node.snap.keys);
            s.nodes[n] = node;
        }
        for (Node node : s.nodes) setsTimer(s, node);
    }

    private static int draw(State s) {
        s.x = (int) ((25173L * s.x + 13849) % 65536);
        return s.x % 10;
    }

    private int lawSays(char letter, int none, int least, int most, int... given) {
        for (Rule rule : law) {
            if (rule.letter != letter) continue;
            boolean holds;
            try {
                holds = rule.test.of(given);
            } catch (Refused r) {
                holds = false;
            }
            if (!holds) continue;
            int worth;
            try {
                worth = rule.sum.of(given);
            } catch (Refused r) {
                worth = 0;
            }
            return Math.max(least, Math.min(most, worth));
        }
        return none;
    }

    private void setsTimer(State s, Node node) {
        int w = draw(s);
        int e = lawSays('e', 8, 4, 40, node.id, node.id, 6, node.term % 100, s.way.size(),
                s.tick % 100, w);
        node.timer = e + w;
    }

    private void lose(State s) {
        s.lost = Math.min(99999, s.lost + 1);
    }

    private void send(State s, Msg m) {
        int w = draw(s);
        int[] given = {m.from, m.to, m.kind, m.term % 100, s.way.size(), s.tick % 100, w};
        int d = lawSays('d', 0, 0, 9, given);
        int l = lawSays('l', 0, 0, 10, given);
        int x = lawSays('x', 0, 0, 1, given);
        if (x == 1 || w < l || s.way.size() == 160) lose(s);
        else s.way.add(m.due(s.tick + 1 + d));
    }

    private static List<Integer> others(Node node) {
        List<Integer> others = new ArrayList<>();
        for (int n = 0; n < 7; n++) {
            if (n != node.id && (node.config().members() >> n & 1) == 1) others.add(n);
        }
        return others;
    }

    private void sendsToAll(State s, Node node) {
        for (int n : others(node)) sendsOn(s, node, n);
    }

    private void sendsOn(State s, Node node, int to) {
        int next = node.next[to];
        if (next <= node.snap.index) {
            send(s, new Msg(node.id, to, 4, node.term, 0, 0, 0, 0, 0, node.round, 0, List.of(),
                    node.snap));
            return;
        }
        List<Entry> some = new ArrayList<>();
        for (int i = next; i < next + 4 && i <= node.last(); i++) some.add(node.log.get(i));
        send(s, new Msg(node.id, to, 2, node.term, 0, next - 1, node.termAt(next - 1), 0, 0,
                node.round, node.commit, some, null));
    }

    private void reply(State s, Node node, Msg m, int yes, int index, int round) {
        send(s, new Msg(node.id, m.from, m.kind + 1, node.term, 0, 0, 0, yes, index, round, 0,
                List.of(), null));
    }

    private boolean tick(State s) {
        if (s.tick == 9999) return false;
        s.tick++;
        List<Msg> due = new ArrayList<>();
        for (Msg m : s.way) {
            if (m.due == s.tick) due.add(m);
        }
        for (Msg m : due) {
            for (int i = 0; i < s.way.size(); i++) {
                if (s.way.get(i) == m) {
                    s.way.remove(i);
                    break;
                }
            }
            if (!s.nodes[m.to].up || s.cut[m.from][m.to]) lose(s);
            else handedOver(s, s.nodes[m.to], m);
        }
        for (Node node : s.nodes) {
            if (!node.up) continue;
            if (node.role == 2) {
                if (++node.heart == 3) {
                    node.heart = 0;
                    node.round++;
                    sendsToAll(s, node);
                }
            } else if (--node.timer == 0) {
                stands(s, node);
            }
        }
        return true;
    }

    private void stands(State s, Node node) {
        if (!node.member() || node.term == 999) {
            setsTimer(s, node);
            return;
        }
        node.term++;
        node.role = 1;
        node.vote = node.id;
        node.votes = 1 << node.id;
        node.known = -2;
        setsTimer(s, node);
        if (node.config().majority(node.votes)) {
            leads(s, node);
            return;
        }
        for (int n : others(node)) {
            send(s, new Msg(node.id, n, 0, node.term, 0, node.last(), node.termAt(node.last()), 0,
                    0, 0, 0, List.of(), null));
        }
    }

    private void leads(State s, Node node) {
        node.role = 2;
        node.known = node.id;
        Arrays.fill(node.next, node.last() + 1);
        node.match = new int[7];
        node.heard = new int[7];
        node.heart = 0;
        node.round = 1;
        Integer before = s.leaders.putIfAbsent(node.term, node.id);
        if (before != null && before != node.id) s.broken++;
        node.lay(new Entry(node.term, 2, 0, 0));
        node.match[node.id] = node.last();
        sendsToAll(s, node);
        holds(s, node);
    }

    private void follows(State s, Node node, int whom) {
        losesReads(s, node);
        node.role = 0;
        node.known = whom;
    }

    private void losesReads(State s, Node node) {
        s.reads.replaceAll(r -> r.state == 0 && r.node == node.id
                ? new Read(2, r.node, r.key, r.round, r.due, 0) : r);
    }

    private void handedOver(State s, Node node, Msg m) {
        if (m.term > node.term) {
            node.term = m.term;
            node.vote = -2;
            follows(s, node, -2);
        }
        boolean leads = node.role == 2 && m.term == node.term;
        if (m.kind == 0) votes(s, node, m);
        if (m.kind == 1 && node.role == 1 && m.term == node.term && m.yes == 1) {
            node.votes |= 1 << m.from;
            if (node.config().majority(node.votes)) leads(s, node);
        }
        if (m.kind == 2) takes(s, node, m);
        if (m.kind == 4) takesSnapshot(s, node, m);
        if (m.kind == 3 && leads) {
            node.heard[m.from] = Math.max(node.heard[m.from], m.round);
            if (m.yes == 1) {
                goesOn(s, node, m);
            } else {
                node.next[m.from] = Math.max(Math.min(node.next[m.from], m.index),
                        node.match[m.from] + 1);
                sendsOn(s, node, m.from);
            }
            answers(s, node);
        }
        if (m.kind == 5 && leads) {
            node.heard[m.from] = Math.max(node.heard[m.from], m.round);
            goesOn(s, node, m);
            answers(s, node);
        }
    }

    private void goesOn(State s, Node node, Msg m) {
        node.match[m.from] = Math.max(node.match[m.from], m.index);
        node.next[m.from] = node.match[m.from] + 1;
        holds(s, node);
        if (node.role == 2 && node.next[m.from] <= node.last()) sendsOn(s, node, m.from);
    }

    private static boolean noLess(int term, int last, Node node) {
        int own = node.termAt(node.last());
        return term > own || (term == own && last >= node.last());
    }

    private void votes(State s, Node node, Msg m) {
        boolean grants = m.term == node.term && (node.vote == -2 || node.vote == m.from)
                && noLess(m.lastTerm, m.last, node);
        if (grants) {
            node.vote = m.from;
            setsTimer(s, node);
        }
        reply(s, node, m, grants ? 1 : 0, 0, 0);
    }

    private void takes(State s, Node node, Msg m) {
        if (m.term < node.term) {
            reply(s, node, m, 0, 1, 0);
            return;
        }
        follows(s, node, m.from);
        setsTimer(s, node);
        int prev = m.last;
        if (prev > node.last()) {
            reply(s, node, m, 0, node.last() + 1, m.round);
            return;
        }
        if (prev >= node.snap.index && node.termAt(prev) != m.lastTerm) {
            int hint = prev;
            if (prev == node.snap.index) {
                hint = Math.max(1, prev);
            } else {
                while (hint - 1 > node.snap.index
                        && node.termAt(hint - 1) == node.termAt(prev)) hint--;
            }
            reply(s, node, m, 0, hint, m.round);
            return;
        }
        int reached = prev;
        for (Entry e : m.entries) {
            int index = reached + 1;
            if (index > node.snap.index) {
                Entry there = node.log.get(index);
                if (there == null || there.term != e.term) {
                    if (there != null) {
                        node.log.tailMap(index, true).clear();
                        if (index <= node.commit) {
                            s.broken++;
                            node.commit = index - 1;
                        }
                    }
                    if (!node.lay(e)) break;
                }
            }
            reached = index;
        }
        commits(s, node, Math.min(m.commit, reached));
        reply(s, node, m, 1, reached, m.round);
    }

    private void takesSnapshot(State s, Node node, Msg m) {
        if (m.term < node.term) {
            reply(s, node, m, 0, 0, 0);
            return;
        }
        follows(s, node, m.from);
        setsTimer(s, node);
        int index = m.snap.index;
        if (index <= node.commit) {
            reply(s, node, m, 0, node.commit, m.round);
            return;
        }
        if (node.log.containsKey(index) && node.log.get(index).term == m.snap.term) {
            node.log.headMap(index, true).clear();
        } else {
            node.log.clear();
        }
        node.snap = m.snap;
        node.commit = index;
        node.keys = new ArrayList<>(m.snap.keys);
        reply(s, node, m, 0, index, m.round);
    }

    private void commits(State s, Node node, int to) {
        while (node.commit < to) {
            node.commit++;
            Entry e = node.log.get(node.commit);
            if (e.kind == 0) node.keys.set(e.a, e.b);
            Entry first = s.held.putIfAbsent(node.commit, e);
            if (first != null && !first.equals(e)) s.broken++;
        }
    }

    private void holds(State s, Node node) {
        for (int index = node.last(); index > node.commit; index--) {
            int have = 0;
            for (int n = 0; n < 7; n++) {
                if (n == node.id || node.match[n] >= index) have |= 1 << n;
            }
            if (node.termAt(index) == node.term && node.config().majority(have)) {
                commits(s, node, index);
                break;
            }
        }
        Config config = node.config();
        boolean held = node.configIndex(node.last()) <= node.commit;
        if (config.news != 0 && held) {
            if (node.lay(new Entry(node.term, 1, config.news, 0))) {
                node.match[node.id] = node.last();
                sendsToAll(s, node);
                holds(s, node);
            }
            return;
        }
        if (config.news == 0 && held && !node.member()) {
            follows(s, node, -2);
            setsTimer(s, node);
        }
    }

    private void answers(State s, Node node) {
        for (int i = 0; i < s.reads.size(); i++) {
            Read r = s.reads.get(i);
            if (r.state != 0 || r.node != node.id) continue;
            int heard = 1 << node.id;
            for (int n = 0; n < 7; n++) {
                if (node.heard[n] >= r.round) heard |= 1 << n;
            }
            if (!node.config().majority(heard)) continue;
            s.reads.set(i, new Read(1, r.node, r.key, r.round, r.due, node.keys.get(r.key)));
            if (node.commit < r.due) s.broken++;
        }
    }

    private static int greatestHeld(State s) {
        return s.held.isEmpty() ? 0 : s.held.lastKey();
    }

    private static int leaderNow(State s) {
        int best = -2;
        for (int n = 0; n < 7; n++) {
            if (s.nodes[n].leader() && (best < 0 || s.nodes[n].term > s.nodes[best].term)) best = n;
        }
        return best;
    }

    // The face.

    private static boolean node(int n) {
        return n >= 0 && n <= 6;
    }

    boolean found(int some) {
        if (some < 1 || some > 127) return false;
        founded(some);
        return true;
    }

    boolean crash(int n) {
        if (!node(n) || !s.nodes[n].up) return false;
        losesReads(s, s.nodes[n]);
        s.nodes[n].up = false;
        s.nodes[n].role = 0;
        return true;
    }

    boolean comeUp(int n) {
        if (!node(n) || s.nodes[n].up) return false;
        Node node = s.nodes[n];
        node.up = true;
        node.role = 0;
        node.commit = node.snap.index;
        node.keys = new ArrayList<>(node.snap.keys);
        node.known = -2;
        node.votes = 0;
        node.round = 0;
        setsTimer(s, node);
        return true;
    }

    boolean cut(int one, int other, boolean is) {
        if (!node(one) || !node(other) || one == other) return false;
        s.cut[one][other] = is;
        s.cut[other][one] = is;
        return true;
    }

    boolean compact(int n) {
        if (!node(n) || !s.nodes[n].up || s.nodes[n].commit == s.nodes[n].snap.index) return false;
        s.nodes[n].compact();
        return true;
    }

    private int laysAsWrite(Node node, Entry e) {
        if (!node.lay(e)) throw new IllegalStateException("no room for a write");
        int index = node.last();
        node.match[node.id] = index;
        sendsToAll(s, node);
        holds(s, node);
        return index;
    }

    int write(int n, int key, int value) {
        if (!node(n) || key < 0 || key > 7 || value < 0 || value > 99) return NONE;
        Node node = s.nodes[n];
        if (!node.leader()) return -2;
        if (node.log.size() >= 40 || node.last() == 999) return -3;
        return laysAsWrite(node, new Entry(node.term, 0, key, value));
    }

    int change(int n, int some) {
        if (!node(n) || some < 1 || some > 127) return NONE;
        Node node = s.nodes[n];
        if (!node.leader()) return -2;
        if (node.log.size() >= 40 || node.last() == 999) return -3;
        Config config = node.config();
        if (config.news != 0 || node.configIndex(node.last()) > node.commit) return -4;
        if (config.olds == some) return -4;
        return laysAsWrite(node, new Entry(node.term, 1, config.olds, some));
    }

    int ask(int n, int key) {
        if (!node(n) || key < 0 || key > 7) return NONE;
        Node node = s.nodes[n];
        if (!node.leader()) return -2;
        if (s.reads.size() == 16) return -3;
        if (node.termAt(node.commit) != node.term) return -4;
        node.round++;
        node.heart = 0;
        sendsToAll(s, node);
        s.reads.add(new Read(0, n, key, node.round, greatestHeld(s), 0));
        answers(s, node);
        return s.reads.size() - 1;
    }

    int feed(int... five) {
        if (tape.size() > 240) return NONE;
        for (int four : five) {
            for (int shift = 24; shift >= 0; shift -= 8) tape.add(four >>> shift & 255);
        }
        return tape.size();
    }

    private int[] takeTape(int n) {
        int[] text = new int[n];
        for (int i = 0; i < n; i++) text[i] = tape.get(i);
        tape.clear();
        return text;
    }

    int law(int n) {
        if (n < 1 || n > 240 || n > tape.size()) return NONE;
        try {
            law = new LawText(takeTape(n)).rules();
            return law.size();
        } catch (Fault f) {
            return f.answer;
        }
    }

    int plan(int n) {
        if (n < 1 || n > 120 || n > tape.size()) return NONE;
        List<int[]> acts;
        try {
            acts = new PlanText(takeTape(n)).all();
        } catch (Fault f) {
            return f.answer;
        }
        int done = 0;
        for (int[] act : acts) {
            if (does(act)) done++;
        }
        return done;
    }

    private boolean does(int[] act) {
        switch (act[0]) {
            case '.': return tick(s);
            case 'k': return crash(act[1]);
            case 'u': return comeUp(act[1]);
            case 'c': return compact(act[1]);
            case 'w': return write(act[1], act[2], act[3]) >= 0;
            case 'r': return ask(act[1], act[2]) >= 0;
            default: return cut(act[1], act[2], act[0] == 'x');
        }
    }

    int ticks(int n) {
        if (n < 1 || n > 200) return NONE;
        int before = s.held.size();
        for (int i = 0; i < n; i++) tick(s);
        return s.held.size() - before;
    }

    int tried(int n, int what) {
        boolean ofNode = what >= 10 && what < 40 && what % 10 < 7;
        if (n < 1 || n > 200 || !(what >= 0 && what <= 3 || ofNode)) return NONE;
        State t = s.copy();
        for (int i = 0; i < n; i++) tick(t);
        if (what == 0) return t.held.size() - s.held.size();
        if (what == 1) return leaderNow(t);
        if (what == 2) return t.way.size();
        if (what == 3) return t.broken;
        Node node = t.nodes[what % 10];
        return what < 20 ? node.commit : what < 30 ? node.term : node.up ? node.role : 0;
    }

    int nodeIs(int n, int what) {
        if (!node(n)) return NONE;
        Node node = s.nodes[n];
        switch (what) {
            case 0: return node.up ? 1 : 0;
            case 1: return node.term;
            case 2: return node.vote;
            case 3: return node.up ? node.role : -2;
            case 4: return node.last();
            case 5: return node.up ? node.commit : -2;
            case 6: return node.snap.index;
            case 7: return node.up ? node.timer : -2;
            case 8: return node.config().olds;
            case 9: return node.config().news;
            case 10: return node.up ? node.known : -2;
            case 11: return node.up ? node.votes : -2;
            case 12: return node.up ? node.round : -2;
            case 13: return node.termAt(node.last());
            default: return NONE;
        }
    }

    private static int part(Entry e, int what) {
        if (e == null) return -2;
        return what == 0 ? e.term : what == 1 ? e.kind : what == 2 ? e.a : e.b;
    }

    int entryAt(int n, int index, int what) {
        if (!node(n) || index < 1 || index > 999 || what < 0 || what > 3) return NONE;
        return part(s.nodes[n].log.get(index), what);
    }

    int keyOf(int n, int key) {
        if (!node(n) || key < 0 || key > 17 || key == 8 || key == 9) return NONE;
        if (key >= 10) return s.nodes[n].snap.keys.get(key - 10);
        return s.nodes[n].up ? s.nodes[n].keys.get(key) : -2;
    }

    int about(int leader, int n, int what) {
        if (!node(leader) || !node(n) || what < 0 || what > 2) return NONE;
        Node node = s.nodes[leader];
        if (!node.leader()) return -2;
        return (what == 0 ? node.next : what == 1 ? node.match : node.heard)[n];
    }

    int message(int i, int what) {
        if (i < 0 || what < 0 || what > 5) return NONE;
        if (i >= s.way.size()) return -4;
        Msg m = s.way.get(i);
        int[] all = {m.from, m.to, m.kind, m.term, m.due, m.entries.size()};
        return all[what];
    }

    int leaderNow() {
        return leaderNow(s);
    }

    int heldAt(int index, int what) {
        if (index < 1 || index > 9999 || what < 0 || what > 3) return NONE;
        return part(s.held.get(index), what);
    }

    int readIs(int i, int what) {
        if (i < 0 || i >= s.reads.size() || what < 0 || what > 3) return NONE;
        Read r = s.reads.get(i);
        return what == 0 ? r.state : what == 1 ? (r.state == 1 ? r.value : -2)
                : what == 2 ? r.node : r.key;
    }

    int broken(int what) {
        if (what == 0) return s.broken;
        if (what != 1 && what != 2) return NONE;
        int twos = 0;
        for (int a = 0; a < 7; a++) {
            for (int b = 0; b < a; b++) {
                Node one = s.nodes[a];
                Node two = s.nodes[b];
                if (what == 1 && !matched(one, two)) twos++;
                if (what == 2 && one.up && two.up && one.commit == two.commit
                        && !one.keys.equals(two.keys)) twos++;
            }
        }
        return twos;
    }

    private static boolean matched(Node one, Node two) {
        for (int at : one.log.keySet()) {
            if (!two.log.containsKey(at) || one.termAt(at) != two.termAt(at)) continue;
            for (int i = 1; i <= at; i++) {
                Entry mine = one.log.get(i);
                Entry its = two.log.get(i);
                if (mine != null && its != null && !mine.equals(its)) return false;
            }
        }
        return true;
    }

    int couldWin(int n, int what) {
        if (!node(n) || what < 0 || what > 1) return NONE;
        Node node = s.nodes[n];
        if (!node.up || !node.member()) return -2;
        int term = node.term + 1;
        int grants = 1 << n;
        for (int o : others(node)) {
            Node other = s.nodes[o];
            if (!other.up || s.cut[o][n] || other.term > term) continue;
            boolean free = other.term < term || other.vote == -2 || other.vote == n;
            if (free && noLess(node.termAt(node.last()), node.last(), other)) grants |= 1 << o;
        }
        return what == 1 ? grants : node.config().majority(grants) ? 1 : 0;
    }

    int majority(int n, int some) {
        if (!node(n) || some < 0 || some > 127) return NONE;
        return s.nodes[n].config().majority(some) ? 1 : 0;
    }

    int till(int n, int what) {
        if (n < 1 || n > 200 || what < 0 || what > 2) return NONE;
        State t = s.copy();
        int held = s.held.size();
        for (int i = 0; i <= n; i++) {
            if (i > 0 && !tick(t)) return -2;
            boolean is = true;
            if (what == 0) is = leaderNow(t) >= 0;
            if (what == 1) is = t.held.size() > held;
            if (what == 2) {
                for (Node node : t.nodes) is &= !node.up || node.commit >= greatestHeld(t);
            }
            if (is) return i;
        }
        return -2;
    }

    boolean seed(int x) {
        if (x < 0 || x > 65535) return false;
        s.x = x;
        return true;
    }

    int keep() {
        kept = s.copy();
        return s.tick;
    }

    boolean undo() {
        if (kept == null) return false;
        s = kept.copy();
        return true;
    }

    int check(int n) {
        if (n < 0 || n > 8 || n > tape.size()) return -2;
        Node best = null;
        for (Node node : s.nodes) {
            if (node.up && (best == null || node.commit > best.commit)) best = node;
        }
        int[] text = takeTape(n);
        for (int i = 0; i < n; i++) {
            if (text[i] != (best == null ? 255 : best.keys.get(i))) return i;
        }
        return NONE;
    }

    int count(int what) {
        switch (what) {
            case 0: return s.tick;
            case 1:
                int up = 0;
                for (Node node : s.nodes) up |= node.up ? 1 << node.id : 0;
                return up;
            case 2: return s.way.size();
            case 3: return greatestHeld(s);
            case 4: return law.size();
            case 5: return tape.size();
            case 6: return s.x;
            case 7: return s.reads.size();
            case 8: return s.lost;
            case 9:
                int cut = 0;
                for (int a = 0; a < 7; a++) {
                    for (int b = 0; b < a; b++) cut += s.cut[a][b] ? 1 : 0;
                }
                return cut;
            default: return NONE;
        }
    }
}
