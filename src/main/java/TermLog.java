import java.util.Arrays;

/**
 * A log kept alike by up to seven nodes, by terms, as ../shared/DOC.md tells it.
 *
 * <p>One World is the state that the calls change; a second one is where TICKS are tried, a third
 * one what was KEPT. All rows are made in the constructor and used again, so that no call makes
 * an object.
 */
public final class TermLog {
    public static final int NONE = -1;

    private static final int NODES = 7;
    private static final int ALL_NODES = 127;
    private static final int KEYS = 8;
    private static final int MOST_VALUE = 99;
    private static final int MOST_ENTRIES = 48;
    private static final int NO_ROOM_FROM = 40;
    private static final int ENTRIES_SENT = 4;
    private static final int MOST_INDEX = 999;
    private static final int MOST_HELD_INDEX = 9999;
    private static final int MOST_TERM = 999;
    private static final int MOST_TICK = 9999;
    private static final int MOST_TICKS_AT_ONCE = 200;
    private static final int MOST_MESSAGES = 160;
    private static final int MOST_READS = 16;
    private static final int MOST_LOST = 99999;
    private static final int MOST_SEED = 65535;
    private static final int TAPE_BYTES = 260;
    private static final int FED_BYTES = 20;
    private static final int LAW_BYTES = 240;
    private static final int PLAN_BYTES = 120;

    /** What is told of a NODE that there is not: no VOTE, no LEADER KNOWN, no LEADER NOW. */
    private static final int NOBODY = -2;

    /** What is told where a NODE, an ENTRY, a value is not to be had now. */
    private static final int NOT_NOW = -2;
    private static final int NO_LEADER = -2;
    private static final int NO_ROOM = -3;
    private static final int NOT_YET = -4;

    private static final int FOLLOWER = 0;
    private static final int CANDIDATE = 1;
    private static final int LEADER = 2;

    private static final int WRITE = 0;
    private static final int CONFIG = 1;
    private static final int NOTHING = 2;

    private static final int TERM_SHIFT = 16;
    private static final int KIND_SHIFT = 14;

    private static final int CALL = 0;
    private static final int VOTE = 1;
    private static final int ENTRIES = 2;
    private static final int ENTRIES_ANSWER = 3;
    private static final int SNAPSHOT = 4;
    private static final int SNAPSHOT_ANSWER = 5;
    private static final int KIND_OF_TIMER = 6;

    private static final int HEARTBEAT = 3;

    private static final int OPEN = 0;
    private static final int ANSWERED = 1;
    private static final int LOST = 2;

    private final Law law = new Law();
    private final World now = new World(law);
    private final World tryOut = new World(law);
    private final World keptWorld = new World(law);
    private boolean wasKept;
    private final int[] tape = new int[TAPE_BYTES];
    private int tapeSize;
    private final LawReader lawReader = new LawReader(tape);
    private final PlanReader planReader = new PlanReader(tape);

    public TermLog() {
        now.x = 1;
        now.begin(7);
    }

    // What changes the state.

    public boolean found(int some) {
        if (some < 1 || some > ALL_NODES) return false;
        now.begin(some);
        return true;
    }

    public boolean crash(int node) {
        if (!isNode(node) || !now.nodes[node].up) return false;
        now.goDown(now.nodes[node]);
        return true;
    }

    public boolean comeUp(int node) {
        if (!isNode(node) || now.nodes[node].up) return false;
        now.nodes[node].rise();
        now.setTimer(now.nodes[node]);
        return true;
    }

    public boolean cut(int one, int other, boolean is) {
        if (!isNode(one) || !isNode(other) || one == other) return false;
        now.setLink(one, other, is);
        return true;
    }

    public boolean compact(int node) {
        if (!isNode(node)) return false;
        Node it = now.nodes[node];
        if (!it.up || it.commit == it.base()) return false;
        it.shorten();
        return true;
    }

    public int write(int node, int key, int value) {
        if (!isNode(node) || !isKey(key) || value < 0 || value > MOST_VALUE) return NONE;
        Node it = now.nodes[node];
        if (!it.leads()) return NO_LEADER;
        if (it.isFull()) return NO_ROOM;
        return now.layAndSpread(it, WRITE, key, value);
    }

    public int change(int node, int some) {
        if (!isNode(node) || some < 1 || some > ALL_NODES) return NONE;
        Node it = now.nodes[node];
        if (!it.leads()) return NO_LEADER;
        if (it.isFull()) return NO_ROOM;
        int at = it.configIndex(it.last());
        int olds = it.oldsAt(at);
        if (it.newsAt(at) != 0 || at > it.commit || olds == some) return NOT_YET;
        return now.layAndSpread(it, CONFIG, olds, some);
    }

    public int ask(int node, int key) {
        if (!isNode(node) || !isKey(key)) return NONE;
        Node it = now.nodes[node];
        if (!it.leads()) return NO_LEADER;
        if (now.readCount >= MOST_READS) return NO_ROOM;
        if (it.termAt(it.commit) != it.term) return NOT_YET;
        return now.openRead(it, key);
    }

    public int ticks(int n) {
        if (!isTickCount(n)) return NONE;
        int before = now.heldCount;
        boolean goesOn = true;
        for (int i = 0; i < n && goesOn; i++) {
            goesOn = now.passTick();
        }
        return now.heldCount - before;
    }

    public boolean seed(int x) {
        if (x < 0 || x > MOST_SEED) return false;
        now.x = x;
        return true;
    }

    public int keep() {
        keptWorld.takeAll(now);
        wasKept = true;
        return now.tick;
    }

    public boolean undo() {
        if (!wasKept) return false;
        now.takeAll(keptWorld);
        return true;
    }

    // What comes by the tape.

    public int feed(int a, int b, int c, int d, int e) {
        if (tapeSize + FED_BYTES > TAPE_BYTES) return NONE;
        layOnTape(a);
        layOnTape(b);
        layOnTape(c);
        layOnTape(d);
        layOnTape(e);
        return tapeSize;
    }

    public int law(int n) {
        if (n < 1 || n > LAW_BYTES || n > tapeSize) return NONE;
        tapeSize = 0;
        int fault = lawReader.readRules(n);
        if (fault != 0) return fault;
        law.takeAll(lawReader.draft);
        return law.rules;
    }

    public int plan(int n) {
        if (n < 1 || n > PLAN_BYTES || n > tapeSize) return NONE;
        tapeSize = 0;
        int fault = planReader.readPlan(n);
        if (fault != 0) return fault;
        int done = 0;
        for (int i = 0; i < planReader.size; i++) {
            int act = planReader.acts[i];
            boolean isTick = PlanReader.signOf(act) == '.';
            if (isTick ? now.passTick() : perform(act)) done++;
        }
        return done;
    }

    public int check(int n) {
        if (n < 0 || n > KEYS || n > tapeSize) return NOT_NOW;
        tapeSize = 0;
        Node best = now.furthestUp();
        for (int key = 0; key < n; key++) {
            int due = best == null ? 255 : best.keys[key];
            if (tape[key] != due) return key;
        }
        return NONE;
    }

    // What is asked and changes nothing.

    public int tried(int n, int what) {
        if (!isTickCount(n) || !isTriedWhat(what)) return NONE;
        tryOut.takeAll(now);
        boolean goesOn = true;
        for (int i = 0; i < n && goesOn; i++) {
            goesOn = tryOut.passTick();
        }
        switch (what) {
            case 0: return tryOut.heldCount - now.heldCount;
            case 1: return tryOut.firstLeader();
            case 2: return tryOut.boxSize;
            case 3: return tryOut.brokenCount;
            default: break;
        }
        Node it = tryOut.nodes[what % 10];
        switch (what / 10) {
            case 1: return it.commit;
            case 2: return it.term;
            default: return it.role;
        }
    }

    public int nodeIs(int node, int what) {
        if (!isNode(node) || what < 0 || what > 13) return NONE;
        Node it = now.nodes[node];
        boolean isKeptOverCrash = what != 3 && what != 5 && what != 7 && (what < 10 || what > 12);
        if (!it.up && !isKeptOverCrash) return NOT_NOW;
        return it.fact(what);
    }

    public int entryAt(int node, int index, int what) {
        if (!isNode(node) || index < 1 || index > MOST_INDEX || !isEntryPart(what)) return NONE;
        int entry = now.nodes[node].entry(index);
        return entry == 0 ? NOT_NOW : partOf(entry, what);
    }

    public int keyOf(int node, int key) {
        if (!isNode(node)) return NONE;
        Node it = now.nodes[node];
        if (isKey(key - 10)) return it.snapshot.keys[key - 10];
        if (!isKey(key)) return NONE;
        return it.up ? it.keys[key] : NOT_NOW;
    }

    public int about(int leader, int node, int what) {
        if (!isNode(leader) || !isNode(node) || what < 0 || what > 2) return NONE;
        Node it = now.nodes[leader];
        if (!it.leads()) return NO_LEADER;
        switch (what) {
            case 0: return it.next[node];
            case 1: return it.match[node];
            default: return it.heard[node];
        }
    }

    public int message(int i, int what) {
        if (i < 0 || what < 0 || what > 5) return NONE;
        if (i >= now.boxSize) return NOT_YET;
        return now.box[i].fact(what);
    }

    public int leaderNow() {
        return now.firstLeader();
    }

    public int heldAt(int index, int what) {
        if (index < 1 || index > MOST_HELD_INDEX || !isEntryPart(what)) return NONE;
        if (index > MOST_INDEX || now.held[index] == 0) return NOT_NOW;
        return partOf(now.held[index], what);
    }

    public int readIs(int i, int what) {
        if (i < 0 || i >= now.readCount || what < 0 || what > 3) return NONE;
        Read it = now.reads[i];
        switch (what) {
            case 0: return it.state;
            case 1: return it.state == ANSWERED ? it.value : NOT_NOW;
            case 2: return it.node;
            default: return it.key;
        }
    }

    public int broken(int what) {
        switch (what) {
            case 0: return now.brokenCount;
            case 1: return now.unmatchedTwos();
            case 2: return now.unlikeTwos();
            default: return NONE;
        }
    }

    public int couldWin(int node, int what) {
        if (!isNode(node) || what < 0 || what > 1) return NONE;
        Node it = now.nodes[node];
        if (!it.up || !it.isMember()) return NOT_NOW;
        int granting = now.grantingTo(it);
        if (what == 1) return granting;
        return it.isMajority(granting) ? 1 : 0;
    }

    public int majority(int node, int some) {
        if (!isNode(node) || some < 0 || some > ALL_NODES) return NONE;
        return now.nodes[node].isMajority(some) ? 1 : 0;
    }

    public int till(int n, int what) {
        if (!isTickCount(n) || what < 0 || what > 2) return NONE;
        if (hasCome(now, what)) return 0;
        tryOut.takeAll(now);
        for (int i = 1; i <= n; i++) {
            if (!tryOut.passTick()) return NOT_NOW;
            if (hasCome(tryOut, what)) return i;
        }
        return NOT_NOW;
    }

    public int count(int what) {
        switch (what) {
            case 0: return now.tick;
            case 1: return now.upBits();
            case 2: return now.boxSize;
            case 3: return now.heldTop;
            case 4: return law.rules;
            case 5: return tapeSize;
            case 6: return now.x;
            case 7: return now.readCount;
            case 8: return now.lostCount;
            case 9: return now.cutCount();
            default: return NONE;
        }
    }

    // Helpers of the face.

    private static boolean isNode(int node) {
        return node >= 0 && node < NODES;
    }

    private static boolean isKey(int key) {
        return key >= 0 && key < KEYS;
    }

    private static boolean isTickCount(int n) {
        return n >= 1 && n <= MOST_TICKS_AT_ONCE;
    }

    private static boolean isEntryPart(int what) {
        return what >= 0 && what <= 3;
    }

    private static boolean isTriedWhat(int what) {
        if (what < 0) return false;
        if (what < 10) return what <= 3;
        return what < 40 && isNode(what % 10);
    }

    private boolean hasCome(World world, int what) {
        switch (what) {
            case 0: return world.firstLeader() != NOBODY;
            case 1: return world.heldCount > now.heldCount;
            default: return world.allUpHaveHeld();
        }
    }

    private void layOnTape(int four) {
        for (int shift = 24; shift >= 0; shift -= 8) {
            if (tapeSize < TAPE_BYTES) {
                tape[tapeSize] = (four >> shift) & 255;
                tapeSize++;
            }
        }
    }

    /** Whether an ACT of a PLAN, but a TICK, was not refused. */
    private boolean perform(int act) {
        int one = PlanReader.digitOf(act, 0);
        int two = PlanReader.digitOf(act, 1);
        switch (PlanReader.signOf(act)) {
            case 'k': return crash(one);
            case 'u': return comeUp(one);
            case 'c': return compact(one);
            case 'w': return write(one, two, PlanReader.digitOf(act, 2)) >= 0;
            case 'r': return ask(one, two) >= 0;
            case 'x': return cut(one, two, true);
            default: return cut(one, two, false);
        }
    }

    // An ENTRY is one int, so that two are the same ENTRY if the ints are the same, and 0 is none
    // (an ENTRY's TERM is 1 at least): TERM, KIND in 2 bits, KEY or old ones in 7, value or new
    // ones in 7.

    private static int entryOf(int term, int kind, int first, int second) {
        return term << TERM_SHIFT | kind << KIND_SHIFT | first << 7 | second;
    }

    private static int termOf(int entry) {
        return entry >> TERM_SHIFT;
    }

    private static int kindOf(int entry) {
        return (entry >> KIND_SHIFT) & 3;
    }

    private static int firstOf(int entry) {
        return (entry >> 7) & 127;
    }

    private static int secondOf(int entry) {
        return entry & 127;
    }

    private static int partOf(int entry, int what) {
        switch (what) {
            case 0: return termOf(entry);
            case 1: return kindOf(entry);
            case 2: return firstOf(entry);
            default: return secondOf(entry);
        }
    }

    private static boolean has(int some, int node) {
        return (some >> node & 1) == 1;
    }

    private static boolean isMajorityOf(int some, int olds, int news) {
        if (2 * Integer.bitCount(some & olds) <= Integer.bitCount(olds)) return false;
        return news == 0 || 2 * Integer.bitCount(some & news) > Integer.bitCount(news);
    }

    /** What a NODE's KEYS and CONFIG were at its BASE. */
    private static final class Snapshot {
        int index;
        int term;
        int olds;
        int news;
        final int[] keys = new int[KEYS];

        void begin(int some) {
            index = 0;
            term = 0;
            olds = some;
            news = 0;
            Arrays.fill(keys, 0);
        }

        void takeAll(Snapshot other) {
            index = other.index;
            term = other.term;
            olds = other.olds;
            news = other.news;
            System.arraycopy(other.keys, 0, keys, 0, KEYS);
        }
    }

    /** A MESSAGE on its way; which of the fields count is told by its KIND. */
    private static final class Message {
        int from;
        int to;
        int kind;
        int term;
        int due;
        /** LAST (KIND 0), PREV (2), the INDEX answered (3, 5). */
        int index;
        int indexTerm;
        boolean isYes;
        int commit;
        int round;
        final int[] entries = new int[ENTRIES_SENT];
        int entryCount;
        final Snapshot snapshot = new Snapshot();

        void begin(Node sender, int receiver, int itsKind) {
            from = sender.number;
            to = receiver;
            kind = itsKind;
            term = sender.term;
            entryCount = 0;
        }

        void bearEntries(Node sender) {
            index = sender.next[to] - 1;
            indexTerm = sender.termAt(index);
            commit = sender.commit;
            round = sender.round;
            int last = sender.last();
            for (int i = 0; i < ENTRIES_SENT && index + 1 + i <= last; i++) {
                entries[i] = sender.entry(index + 1 + i);
                entryCount = i + 1;
            }
        }

        int fact(int what) {
            switch (what) {
                case 0: return from;
                case 1: return to;
                case 2: return kind;
                case 3: return term;
                case 4: return due;
                default: return entryCount;
            }
        }

        void takeAll(Message other) {
            from = other.from;
            to = other.to;
            kind = other.kind;
            term = other.term;
            due = other.due;
            index = other.index;
            indexTerm = other.indexTerm;
            isYes = other.isYes;
            commit = other.commit;
            round = other.round;
            entryCount = other.entryCount;
            System.arraycopy(other.entries, 0, entries, 0, ENTRIES_SENT);
            snapshot.takeAll(other.snapshot);
        }
    }

    private static final class Read {
        int state;
        int node;
        int key;
        int round;
        /** The greatest INDEX HELD FOR SURE when it was asked. */
        int heldThen;
        int value;

        void takeAll(Read other) {
            state = other.state;
            node = other.node;
            key = other.key;
            round = other.round;
            heldThen = other.heldThen;
            value = other.value;
        }
    }

    /** What one NODE has; what it tells others is the World's. */
    private static final class Node {
        final int number;
        boolean up;
        int term;
        int vote;
        final int[] log = new int[MOST_ENTRIES];
        int logSize;
        final Snapshot snapshot = new Snapshot();
        int role;
        int commit;
        final int[] keys = new int[KEYS];
        int timer;
        int leaderKnown;
        int votes;
        final int[] next = new int[NODES];
        final int[] match = new int[NODES];
        final int[] heard = new int[NODES];
        int round;
        int heart;

        Node(int itsNumber) {
            number = itsNumber;
        }

        void begin(int some) {
            term = 0;
            vote = NOBODY;
            logSize = 0;
            snapshot.begin(some);
            rise();
        }

        /** Up again, with all that is not kept as it is at first. */
        void rise() {
            up = true;
            role = FOLLOWER;
            commit = snapshot.index;
            System.arraycopy(snapshot.keys, 0, keys, 0, KEYS);
            leaderKnown = NOBODY;
            votes = 0;
            round = 0;
            heart = 0;
        }

        boolean leads() {
            return up && role == LEADER;
        }

        int base() {
            return snapshot.index;
        }

        int last() {
            return snapshot.index + logSize;
        }

        /** The ENTRY at an INDEX; 0: there is none. */
        int entry(int index) {
            int at = index - snapshot.index - 1;
            return at >= 0 && at < logSize ? log[at] : 0;
        }

        /** The TERM at an INDEX, of BASE the SNAPSHOT's. */
        int termAt(int index) {
            if (index == snapshot.index) return snapshot.term;
            int at = index - snapshot.index - 1;
            return at >= 0 && at < logSize ? log[at] >> TERM_SHIFT : 0;
        }

        boolean isFull() {
            return logSize >= NO_ROOM_FROM || last() >= MOST_INDEX;
        }

        /** The INDEX of the last ENTRY of KIND 1 up to an INDEX; BASE: the SNAPSHOT's CONFIG. */
        int configIndex(int upTo) {
            int behind = upTo - snapshot.index;
            if (behind > logSize) behind = logSize;
            for (int at = behind - 1; at >= 0; at--) {
                if ((log[at] >> KIND_SHIFT & 3) == CONFIG) return snapshot.index + 1 + at;
            }
            return snapshot.index;
        }

        int oldsAt(int configIndex) {
            return configIndex == snapshot.index ? snapshot.olds : firstOf(entry(configIndex));
        }

        int newsAt(int configIndex) {
            return configIndex == snapshot.index ? snapshot.news : secondOf(entry(configIndex));
        }

        int members() {
            int at = configIndex(last());
            return oldsAt(at) | newsAt(at);
        }

        boolean isMember() {
            return has(members(), number);
        }

        boolean isMajority(int some) {
            int at = configIndex(last());
            return isMajorityOf(some, oldsAt(at), newsAt(at));
        }

        /** Whether its LOG is ahead of one with such a LAST. */
        boolean isAheadOf(int otherLastTerm, int otherLast) {
            int lastTerm = termAt(last());
            return lastTerm > otherLastTerm || (lastTerm == otherLastTerm && last() > otherLast);
        }

        /** Lays an ENTRY behind the last; false: there is no room for it. */
        boolean lay(int entry) {
            if (logSize >= MOST_ENTRIES) shorten();
            if (logSize >= MOST_ENTRIES || last() >= MOST_INDEX) return false;
            log[logSize] = entry;
            logSize++;
            return true;
        }

        /** It COMPACTS. */
        void shorten() {
            int config = entry(configIndex(commit));
            int commitTerm = termAt(commit);
            dropUpTo(commit);
            snapshot.index = commit;
            snapshot.term = commitTerm;
            if (config != 0) {
                snapshot.olds = firstOf(config);
                snapshot.news = secondOf(config);
            }
            System.arraycopy(keys, 0, snapshot.keys, 0, KEYS);
        }

        /** The caller sets the SNAPSHOT's INDEX anew, by which the ENTRIES that stay are told. */
        private void dropUpTo(int index) {
            int gone = index - snapshot.index;
            if (gone < 0) return;
            if (gone > logSize) gone = logSize;
            logSize -= gone;
            for (int at = 0; at < logSize; at++) {
                log[at] = log[at + gone];
            }
        }

        void dropFrom(int index) {
            logSize = Math.max(0, Math.min(index - snapshot.index - 1, logSize));
        }

        void install(Snapshot told) {
            boolean goesOn = entry(told.index) != 0 && termAt(told.index) == told.term;
            dropUpTo(goesOn ? told.index : last());
            snapshot.takeAll(told);
            commit = told.index;
            System.arraycopy(told.keys, 0, keys, 0, KEYS);
        }

        /** From where a sender should send instead; 0: what it sent fits behind PREV. */
        int hintAgainst(int prev, int prevTerm) {
            if (prev > last()) return last() + 1;
            int own = termAt(prev);
            if (prev < snapshot.index || own == prevTerm) return 0;
            if (prev == snapshot.index) return Math.max(prev, 1);
            int first = prev;
            for (int index = prev - 1; index > snapshot.index; index--) {
                if (termAt(index) != own) break;
                first = index;
            }
            return first;
        }

        void becomeCandidate() {
            term++;
            role = CANDIDATE;
            vote = number;
            votes = 1 << number;
            leaderKnown = NOBODY;
        }

        void becomeLeader() {
            role = LEADER;
            leaderKnown = number;
            Arrays.fill(next, last() + 1);
            Arrays.fill(match, 0);
            Arrays.fill(heard, 0);
            heart = 0;
            round = 1;
        }

        /** Whether by this answer it has a MAJORITY of VOTES. */
        boolean winsBy(Message answer) {
            if (role != CANDIDATE || answer.term != term || !answer.isYes) return false;
            votes |= 1 << answer.from;
            return isMajority(votes);
        }

        /** The greatest INDEX of its own TERM that a MAJORITY has; COMMIT if none is above it. */
        int matchedByMajority() {
            int at = configIndex(last());
            int olds = oldsAt(at);
            int news = newsAt(at);
            for (int index = last(); index > commit; index--) {
                if (termAt(index) == term && isMajorityOf(thoseWithMatch(index), olds, news)) {
                    return index;
                }
            }
            return commit;
        }

        private int thoseWithMatch(int index) {
            int some = 1 << number;
            for (int n = 0; n < NODES; n++) {
                if (match[n] >= index) some |= 1 << n;
            }
            return some;
        }

        int thoseWithHeard(int least) {
            int some = 1 << number;
            for (int n = 0; n < NODES; n++) {
                if (heard[n] >= least) some |= 1 << n;
            }
            return some;
        }

        boolean hasSameKeys(Node other) {
            for (int key = 0; key < KEYS; key++) {
                if (keys[key] != other.keys[key]) return false;
            }
            return true;
        }

        /** Whether all ENTRIES both have are the same up to the last one of the same TERM. */
        boolean isMatchedWith(Node other) {
            int from = Math.max(base(), other.base()) + 1;
            int to = Math.min(last(), other.last());
            boolean hasUnlike = false;
            for (int index = from; index <= to; index++) {
                if (entry(index) != other.entry(index)) hasUnlike = true;
                if (hasUnlike && termAt(index) == other.termAt(index)) return false;
            }
            return true;
        }

        int fact(int what) {
            switch (what) {
                case 0: return up ? 1 : 0;
                case 1: return term;
                case 2: return vote;
                case 3: return role;
                case 4: return last();
                case 5: return commit;
                case 6: return base();
                case 7: return timer;
                case 8: return oldsAt(configIndex(last()));
                case 9: return newsAt(configIndex(last()));
                case 10: return leaderKnown;
                case 11: return votes;
                case 12: return round;
                default: return termAt(last());
            }
        }

        void takeAll(Node other) {
            up = other.up;
            term = other.term;
            vote = other.vote;
            System.arraycopy(other.log, 0, log, 0, MOST_ENTRIES);
            logSize = other.logSize;
            snapshot.takeAll(other.snapshot);
            role = other.role;
            commit = other.commit;
            System.arraycopy(other.keys, 0, keys, 0, KEYS);
            timer = other.timer;
            leaderKnown = other.leaderKnown;
            votes = other.votes;
            System.arraycopy(other.next, 0, next, 0, NODES);
            System.arraycopy(other.match, 0, match, 0, NODES);
            System.arraycopy(other.heard, 0, heard, 0, NODES);
            round = other.round;
            heart = other.heart;
        }
    }

    /** All NODES, what is on its way between them and what was HELD: all that keep() keeps. */
    private static final class World {
        final Law law;
        final Node[] nodes = new Node[NODES];
        /** In the order SENT; behind boxSize the spare ones, one more than may be on their way. */
        final Message[] box = new Message[MOST_MESSAGES + 1];
        int boxSize;
        /** Not in the box, so that what it makes others send is not laid over it. */
        Message inHand = new Message();
        final Read[] reads = new Read[MOST_READS];
        int readCount;
        final int[] held = new int[MOST_INDEX + 1];
        int heldTop;
        int heldCount;
        /** By TERM: the NODES that have led it (bits). */
        final int[] ledBy = new int[MOST_TERM + 1];
        /** By NODE: those to whom the link is cut. */
        final int[] cutFrom = new int[NODES];
        int tick;
        int x;
        int brokenCount;
        int lostCount;

        World(Law itsLaw) {
            law = itsLaw;
            for (int n = 0; n < NODES; n++) {
                nodes[n] = new Node(n);
            }
            for (int i = 0; i <= MOST_MESSAGES; i++) {
                box[i] = new Message();
            }
            for (int i = 0; i < MOST_READS; i++) {
                reads[i] = new Read();
            }
        }

        void begin(int some) {
            boxSize = 0;
            readCount = 0;
            Arrays.fill(held, 0);
            heldTop = 0;
            heldCount = 0;
            Arrays.fill(ledBy, 0);
            Arrays.fill(cutFrom, 0);
            tick = 0;
            brokenCount = 0;
            lostCount = 0;
            for (int n = 0; n < NODES; n++) {
                nodes[n].begin(some);
            }
            for (int n = 0; n < NODES; n++) {
                setTimer(nodes[n]);
            }
        }

        // Time and MESSAGES.

        /** A TICK; false: THE TICK is as far as it goes. */
        boolean passTick() {
            if (tick >= MOST_TICK) return false;
            tick++;
            // What is sent meanwhile comes behind those that waited, and is due later.
            int waiting = boxSize;
            int first = 0;
            for (int i = 0; i < waiting && first < boxSize; i++) {
                if (box[first].due > tick) {
                    first++;
                } else {
                    takeOut(first);
                    handOver(inHand);
                }
            }
            for (int n = 0; n < NODES; n++) {
                Node node = nodes[n];
                if (node.leads()) {
                    beat(node);
                } else if (node.up) {
                    node.timer--;
                    if (node.timer <= 0) stand(node);
                }
            }
            return true;
        }

        private void takeOut(int at) {
            Message out = box[at];
            boxSize--;
            for (int i = at; i < boxSize; i++) {
                box[i] = box[i + 1];
            }
            box[boxSize] = inHand;
            inHand = out;
        }

        private void beat(Node node) {
            node.heart++;
            if (node.heart < HEARTBEAT) return;
            node.heart = 0;
            node.round++;
            sendOn(node, node.members());
        }

        private int draw() {
            x = (25173 * x + 13849) & MOST_SEED;
            return x % 10;
        }

        void setTimer(Node node) {
            int draw = draw();
            law.give(node.number, node.number, KIND_OF_TIMER, node.term, boxSize, tick, draw);
            node.timer = law.worth('e', 8, 4, 40) + draw;
        }

        /** The MESSAGE to be filled and posted next: the first spare one. */
        private Message spare(Node from, int to, int kind) {
            Message m = box[Math.min(boxSize, MOST_MESSAGES)];
            m.begin(from, to, kind);
            return m;
        }

        /** SENDS what spare() gave: it is on its way from here on, or lost. */
        private void post(Message m) {
            int draw = draw();
            law.give(m.from, m.to, m.kind, m.term, boxSize, tick, draw);
            int late = law.worth('d', 0, 0, 9);
            int risk = law.worth('l', 0, 0, 10);
            boolean isLost = law.worth('x', 0, 0, 1) == 1 || draw < risk;
            if (isLost || boxSize >= MOST_MESSAGES) {
                lose();
                return;
            }
            m.due = tick + 1 + late;
            boxSize++;
        }

        private void lose() {
            if (lostCount < MOST_LOST) lostCount++;
        }

        /** SENDS ON to each of some, but not to itself. */
        private void sendOn(Node node, int some) {
            for (int to = 0; to < NODES; to++) {
                if (!has(some, to) || to == node.number) continue;
                if (node.next[to] <= node.base()) {
                    Message m = spare(node, to, SNAPSHOT);
                    m.snapshot.takeAll(node.snapshot);
                    m.round = node.round;
                    post(m);
                } else {
                    Message m = spare(node, to, ENTRIES);
                    m.bearEntries(node);
                    post(m);
                }
            }
        }

        private void callForVotes(Node node) {
            int others = node.members() & ~(1 << node.number);
            for (int to = 0; to < NODES; to++) {
                if (!has(others, to)) continue;
                Message m = spare(node, to, CALL);
                m.index = node.last();
                m.indexTerm = node.termAt(m.index);
                post(m);
            }
        }

        private void answer(Node node, Message asked, boolean isYes, int index, int round) {
            Message m = spare(node, asked.from, asked.kind + 1);
            m.isYes = isYes;
            m.index = index;
            m.round = round;
            post(m);
        }

        // What is HANDED OVER.

        private void handOver(Message m) {
            if (!isNode(m.from) || !isNode(m.to)) return;
            Node node = nodes[m.to];
            if (!node.up || has(cutFrom[m.to], m.from)) {
                lose();
                return;
            }
            if (m.term > node.term) {
                node.term = m.term;
                node.vote = NOBODY;
                follow(node, NOBODY);
            }
            switch (m.kind) {
                case CALL:
                    grantOrNot(node, m);
                    break;
                case VOTE:
                    if (node.winsBy(m)) {
                        crown(node);
                        layAndSpread(node, NOTHING, 0, 0);
                    }
                    break;
                case ENTRIES:
                    takeEntries(node, m);
                    break;
                case SNAPSHOT:
                    takeSnapshot(node, m);
                    break;
                case ENTRIES_ANSWER:
                case SNAPSHOT_ANSWER:
                    if (node.role == LEADER && node.term == m.term) hearAnswer(node, m);
                    break;
                default:
                    break;
            }
        }

        private void grantOrNot(Node node, Message m) {
            boolean isFree = node.vote == NOBODY || node.vote == m.from;
            boolean isGranted =
                    m.term == node.term && isFree && !node.isAheadOf(m.indexTerm, m.index);
            if (isGranted) {
                node.vote = m.from;
                setTimer(node);
            }
            answer(node, m, isGranted, 0, 0);
        }

        private void takeEntries(Node node, Message m) {
            if (m.term < node.term) {
                answer(node, m, false, 1, 0);
                return;
            }
            follow(node, m.from);
            setTimer(node);
            int hint = node.hintAgainst(m.index, m.indexTerm);
            if (hint > 0) {
                answer(node, m, false, hint, m.round);
                return;
            }
            int reached = m.index;
            for (int i = 0; i < m.entryCount; i++) {
                if (!place(node, reached + 1, m.entries[i])) break;
                reached++;
            }
            raiseCommit(node, Math.min(m.commit, reached));
            answer(node, m, true, reached, m.round);
        }

        /** Whether what a LEADER has at an INDEX is there now; false: there was no room for it. */
        private boolean place(Node node, int index, int entry) {
            if (index <= node.base()) return true;
            if (index <= node.last()) {
                if (node.termAt(index) == termOf(entry)) return true;
                if (index <= node.commit) {
                    brokenCount++;
                    node.commit = index - 1;
                }
                node.dropFrom(index);
            }
            return node.lay(entry);
        }

        private void takeSnapshot(Node node, Message m) {
            if (m.term < node.term) {
                answer(node, m, false, 0, 0);
                return;
            }
            follow(node, m.from);
            setTimer(node);
            if (m.snapshot.index > node.commit) node.install(m.snapshot);
            answer(node, m, true, node.commit, m.round);
        }

        /** An answer of KIND 3 or 5, of which 5 knows no no. */
        private void hearAnswer(Node node, Message m) {
            int from = m.from;
            node.heard[from] = Math.max(node.heard[from], m.round);
            if (m.isYes || m.kind == SNAPSHOT_ANSWER) {
                node.match[from] = Math.max(node.match[from], m.index);
                node.next[from] = node.match[from] + 1;
                hold(node);
                if (node.role == LEADER && node.next[from] <= node.last()) sendOn(node, 1 << from);
            } else {
                int told = Math.min(node.next[from], m.index);
                node.next[from] = Math.max(told, node.match[from] + 1);
                sendOn(node, 1 << from);
            }
            answerReads(node);
        }

        // Roles.

        /** Only a LEADER has open READS, so that it is right to lose them of any NODE here. */
        private void follow(Node node, int leader) {
            node.role = FOLLOWER;
            node.leaderKnown = leader;
            loseReads(node);
        }

        private void stand(Node node) {
            if (!node.isMember() || node.term >= MOST_TERM) {
                setTimer(node);
                return;
            }
            node.becomeCandidate();
            setTimer(node);
            if (node.isMajority(node.votes)) {
                crown(node);
                layAndSpread(node, NOTHING, 0, 0);
            } else {
                callForVotes(node);
            }
        }

        /** It LEADS; that it lays an ENTRY, SENDS TO ALL and HOLDS is left to layAndSpread(). */
        private void crown(Node node) {
            node.becomeLeader();
            if (node.term < 0 || node.term > MOST_TERM) return;
            int itself = 1 << node.number;
            if ((ledBy[node.term] & ~itself) != 0) brokenCount++;
            ledBy[node.term] |= itself;
        }

        void goDown(Node node) {
            node.up = false;
            node.role = FOLLOWER;
            loseReads(node);
        }

        // What a LEADER lays and HOLDS.

        /** Lays an ENTRY of its TERM, SENDS TO ALL and HOLDS; the INDEX that was LAST then. */
        int layAndSpread(Node node, int kind, int first, int second) {
            node.lay(entryOf(node.term, kind, first, second));
            int index = node.last();
            node.match[node.number] = index;
            sendOn(node, node.members());
            hold(node);
            return index;
        }

        /** It HOLDS: twice at most, for by the second time its CONFIG is not joint. */
        private void hold(Node node) {
            for (int time = 0; time < 2; time++) {
                raiseCommit(node, node.matchedByMajority());
                int at = node.configIndex(node.last());
                if (at > node.commit) return;
                int news = node.newsAt(at);
                if (news == 0) {
                    if (!has(node.oldsAt(at), node.number)) leave(node);
                    return;
                }
                if (!node.lay(entryOf(node.term, CONFIG, news, 0))) return;
                node.match[node.number] = node.last();
                sendOn(node, node.members());
            }
        }

        private void leave(Node node) {
            follow(node, NOBODY);
            setTimer(node);
        }

        private void raiseCommit(Node node, int to) {
            for (int index = node.commit + 1; index <= to; index++) {
                seeHeld(node, index, node.entry(index));
            }
            node.commit = Math.max(node.commit, to);
        }

        private void seeHeld(Node node, int index, int entry) {
            if (kindOf(entry) == WRITE && isKey(firstOf(entry))) {
                node.keys[firstOf(entry)] = secondOf(entry);
            }
            if (index < 1 || index > MOST_INDEX) return;
            if (held[index] == 0) {
                held[index] = entry;
                heldCount++;
                heldTop = Math.max(heldTop, index);
            } else if (held[index] != entry) {
                brokenCount++;
            }
        }

        // READS.

        int openRead(Node node, int key) {
            node.round++;
            node.heart = 0;
            sendOn(node, node.members());
            if (readCount >= MOST_READS) return NO_ROOM;
            Read read = reads[readCount];
            readCount++;
            read.state = OPEN;
            read.node = node.number;
            read.key = key;
            read.round = node.round;
            read.heldThen = heldTop;
            read.value = 0;
            answerReads(node);
            return readCount - 1;
        }

        private void answerReads(Node node) {
            for (int i = 0; i < readCount; i++) {
                Read read = reads[i];
                if (read.state != OPEN || read.node != node.number) continue;
                if (!node.isMajority(node.thoseWithHeard(read.round))) continue;
                read.state = ANSWERED;
                read.value = node.keys[read.key];
                if (node.commit < read.heldThen) brokenCount++;
            }
        }

        private void loseReads(Node node) {
            for (int i = 0; i < readCount; i++) {
                Read read = reads[i];
                if (read.state == OPEN && read.node == node.number) read.state = LOST;
            }
        }

        // What is asked of all.

        void setLink(int one, int other, boolean isCut) {
            if (isCut) {
                cutFrom[one] |= 1 << other;
                cutFrom[other] |= 1 << one;
            } else {
                cutFrom[one] &= ~(1 << other);
                cutFrom[other] &= ~(1 << one);
            }
        }

        int cutCount() {
            int ends = 0;
            for (int n = 0; n < NODES; n++) {
                ends += Integer.bitCount(cutFrom[n]);
            }
            return ends / 2;
        }

        int upBits() {
            int some = 0;
            for (int n = 0; n < NODES; n++) {
                if (nodes[n].up) some |= 1 << n;
            }
            return some;
        }

        /** LEADER NOW. */
        int firstLeader() {
            int best = NOBODY;
            int bestTerm = -1;
            for (int n = 0; n < NODES; n++) {
                if (nodes[n].leads() && nodes[n].term > bestTerm) {
                    best = n;
                    bestTerm = nodes[n].term;
                }
            }
            return best;
        }

        /** The UP NODE of the greatest COMMIT, null: none is UP. */
        Node furthestUp() {
            Node best = null;
            for (int n = 0; n < NODES; n++) {
                Node node = nodes[n];
                if (node.up && (best == null || node.commit > best.commit)) best = node;
            }
            return best;
        }

        boolean allUpHaveHeld() {
            for (int n = 0; n < NODES; n++) {
                if (nodes[n].up && nodes[n].commit < heldTop) return false;
            }
            return true;
        }

        int unmatchedTwos() {
            int twos = 0;
            for (int one = 0; one < NODES; one++) {
                for (int other = one + 1; other < NODES; other++) {
                    if (!nodes[one].isMatchedWith(nodes[other])) twos++;
                }
            }
            return twos;
        }

        int unlikeTwos() {
            int twos = 0;
            for (int one = 0; one < NODES; one++) {
                for (int other = one + 1; other < NODES; other++) {
                    if (isUnlike(nodes[one], nodes[other])) twos++;
                }
            }
            return twos;
        }

        private static boolean isUnlike(Node one, Node other) {
            return one.up && other.up && one.commit == other.commit && !one.hasSameKeys(other);
        }

        int grantingTo(Node node) {
            int some = 1 << node.number;
            int members = node.members();
            for (int n = 0; n < NODES; n++) {
                if (n != node.number && has(members, n) && wouldGrant(nodes[n], node)) {
                    some |= 1 << n;
                }
            }
            return some;
        }

        private boolean wouldGrant(Node voter, Node node) {
            int term = node.term + 1;
            if (!voter.up || has(cutFrom[voter.number], node.number)) return false;
            if (voter.term > term) return false;
            boolean isFree =
                    voter.term < term || voter.vote == NOBODY || voter.vote == node.number;
            return isFree && !voter.isAheadOf(node.termAt(node.last()), node.last());
        }

        void takeAll(World other) {
            for (int n = 0; n < NODES; n++) {
                nodes[n].takeAll(other.nodes[n]);
            }
            boxSize = other.boxSize;
            for (int i = 0; i < boxSize; i++) {
                box[i].takeAll(other.box[i]);
            }
            readCount = other.readCount;
            for (int i = 0; i < readCount; i++) {
                reads[i].takeAll(other.reads[i]);
            }
            System.arraycopy(other.held, 0, held, 0, MOST_INDEX + 1);
            heldTop = other.heldTop;
            heldCount = other.heldCount;
            System.arraycopy(other.ledBy, 0, ledBy, 0, MOST_TERM + 1);
            System.arraycopy(other.cutFrom, 0, cutFrom, 0, NODES);
            tick = other.tick;
            x = other.x;
            brokenCount = other.brokenCount;
            lostCount = other.lostCount;
        }
    }

    /**
     * THE LAW as steps for a stack, RULE behind RULE: its letter, E, WORTH, C, HOLDS. A step never
     * leads back. The letters of RULES and the signs of E and C are steps by their own numbers.
     */
    private static final class Law {
        static final int NUMBER = 1;
        static final int GIVEN = 2;
        static final int WORTH = 3;
        static final int HOLDS = 4;
        private static final int MOST_STEPS = 320;
        private static final int MOST_STACK = 64;
        /** Two values lie below all others, so that any step finds two. */
        private static final int FLOOR = 2;

        int rules;
        int size;
        private final int[] steps = new int[MOST_STEPS];
        private final int[] args = new int[MOST_STEPS];
        private final int[] given = new int[8];
        private final int[] stack = new int[MOST_STACK];

        void clear() {
            rules = 0;
            size = 0;
        }

        int put(int step, int arg) {
            if (size < MOST_STEPS) {
                steps[size] = step;
                args[size] = arg;
                size++;
            }
            return size - 1;
        }

        /** Makes a step laid earlier lead to behind the last one. */
        void aim(int at) {
            if (at >= 0 && at < size) args[at] = size;
        }

        /** What the letters f, t, k, n, q, s, w are, in this order. */
        void give(int from, int to, int kind, int term, int onWay, int tick, int draw) {
            given[0] = from;
            given[1] = to;
            given[2] = kind;
            given[3] = term % 100;
            given[4] = onWay;
            given[5] = tick % 100;
            given[6] = draw;
        }

        /** The E of the first RULE of a letter whose C holds, kept within its bounds. */
        int worth(int letter, int otherwise, int least, int most) {
            int top = FLOOR;
            int value = 0;
            int skipTo = 0;
            boolean isRefused = false;
            for (int at = 0; at < size; at++) {
                int step = steps[at];
                boolean isEnd = step == WORTH || step == HOLDS;
                if (at < skipTo || (isRefused && !isEnd)) continue;
                if (top < FLOOR || top >= MOST_STACK) return otherwise;
                int left = stack[top - 2];
                int right = stack[top - 1];
                switch (step) {
                    case 'd': case 'l': case 'e': case 'x':
                        if (step != letter) skipTo = args[at];
                        break;
                    case NUMBER:
                        stack[top] = args[at];
                        top++;
                        break;
                    case GIVEN:
                        stack[top] = given[args[at] & 7];
                        top++;
                        break;
                    case WORTH:
                        value = isRefused ? 0 : right;
                        isRefused = false;
                        top = FLOOR;
                        break;
                    case HOLDS:
                        if (!isRefused && right != 0) {
                            return value < least ? least : value > most ? most : value;
                        }
                        isRefused = false;
                        top = FLOOR;
                        break;
                    case '!': stack[top - 1] = right == 0 ? 1 : 0; break;
                    case '|': if (right != 0) skipTo = args[at]; else top--; break;
                    case '&': if (right == 0) skipTo = args[at]; else top--; break;
                    case '/': case '%':
                        top--;
                        if (right == 0) isRefused = true;
                        else stack[top - 1] = step == '/' ? left / right : left % right;
                        break;
                    case '+': top--; stack[top - 1] = left + right; break;
                    case '-': top--; stack[top - 1] = left - right; break;
                    case '*': top--; stack[top - 1] = left * right; break;
                    case '<': top--; stack[top - 1] = left < right ? 1 : 0; break;
                    case '>': top--; stack[top - 1] = left > right ? 1 : 0; break;
                    default: top--; stack[top - 1] = left == right ? 1 : 0; break;
                }
            }
            return otherwise;
        }

        void takeAll(Law other) {
            rules = other.rules;
            size = other.size;
            System.arraycopy(other.steps, 0, steps, 0, MOST_STEPS);
            System.arraycopy(other.args, 0, args, 0, MOST_STEPS);
        }
    }

    /** Reads the TEXT of a LAW into a draft; the first FAULT stays, and what follows is idle. */
    private static final class LawReader {
        private static final int MOST_RULES = 16;
        private static final int MOST_OPEN = 6;
        private static final int MOST_DIGITS = 5;

        final Law draft = new Law();
        private final int[] text;
        private int end;
        private int at;
        private int fault;

        LawReader(int[] tape) {
            text = tape;
        }

        /** 0, or the FAULT as it is answered. */
        int readRules(int n) {
            end = Math.min(n, text.length);
            at = 0;
            fault = 0;
            draft.clear();
            for (int i = 0; i <= MOST_RULES && fault == 0; i++) {
                readRule();
                if (at == end) break;
                expect(';');
            }
            return fault;
        }

        private int sign() {
            return at >= 0 && at < end ? text[at] : -1;
        }

        private void fail(int number) {
            if (fault == 0) fault = -1000 * number - at;
        }

        private void expect(int due) {
            if (fault != 0) return;
            if (sign() == due) at++;
            else fail(1);
        }

        private boolean isNext(int one, int two, int three) {
            int sign = sign();
            return fault == 0 && (sign == one || sign == two || sign == three);
        }

        private void readRule() {
            int letter = sign();
            if (letter != 'd' && letter != 'l' && letter != 'e' && letter != 'x') {
                fail(1);
                return;
            }
            if (draft.rules >= MOST_RULES) {
                fail(4);
                return;
            }
            at++;
            int start = draft.put(letter, 0);
            if (letter == 'x') draft.put(Law.NUMBER, 1);
            else readSum(0);
            draft.put(Law.WORTH, 0);
            expect('(');
            readParts(1);
            expect(')');
            draft.put(Law.HOLDS, 0);
            draft.aim(start);
            draft.rules++;
        }

        /** A C; how many of ( [ ! are open is told on, so that no more than six ever are. */
        private void readParts(int open) {
            readTests(open);
            for (int i = at; i < end && isNext('|', '|', '|'); i++) {
                at++;
                int leap = draft.put('|', 0);
                readTests(open);
                draft.aim(leap);
            }
        }

        private void readTests(int open) {
            readTest(open);
            for (int i = at; i < end && isNext('&', '&', '&'); i++) {
                at++;
                int leap = draft.put('&', 0);
                readTest(open);
                draft.aim(leap);
            }
        }

        private void readTest(int open) {
            if (isNext('!', '(', '(')) {
                readOpened(open);
                return;
            }
            readSum(open);
            int how = sign();
            if (!isNext('<', '>', '=')) {
                fail(1);
                return;
            }
            at++;
            readSum(open);
            draft.put(how, 0);
        }

        /** A TEST that begins with ! or (. */
        private void readOpened(int open) {
            if (open >= MOST_OPEN) {
                fail(5);
                return;
            }
            int opener = sign();
            at++;
            if (opener == '!') {
                readTest(open + 1);
                draft.put('!', 0);
            } else {
                readParts(open + 1);
                expect(')');
            }
        }

        /** An E. */
        private void readSum(int open) {
            readProduct(open);
            for (int i = at; i < end && isNext('+', '-', '-'); i++) {
                int how = sign();
                at++;
                readProduct(open);
                draft.put(how, 0);
            }
        }

        private void readProduct(int open) {
            readFactor(open);
            for (int i = at; i < end && isNext('*', '/', '%'); i++) {
                int how = sign();
                at++;
                readFactor(open);
                draft.put(how, 0);
            }
        }

        private void readFactor(int open) {
            if (fault != 0) return;
            int sign = sign();
            if (sign == '[') {
                if (open >= MOST_OPEN) {
                    fail(5);
                    return;
                }
                at++;
                readSum(open + 1);
                expect(']');
            } else if (isDigit(sign)) {
                readNumber();
            } else {
                int which = letterPlace(sign);
                if (which < 0) {
                    fail(1);
                    return;
                }
                at++;
                draft.put(Law.GIVEN, which);
            }
        }

        private void readNumber() {
            int number = 0;
            for (int digits = 0; digits < MOST_DIGITS && isDigit(sign()); digits++) {
                number = number * 10 + sign() - '0';
                at++;
            }
            if (isDigit(sign())) fail(2);
            draft.put(Law.NUMBER, number);
        }

        private static boolean isDigit(int sign) {
            return sign >= '0' && sign <= '9';
        }

        private static int letterPlace(int sign) {
            switch (sign) {
                case 'f': return 0;
                case 't': return 1;
                case 'k': return 2;
                case 'n': return 3;
                case 'q': return 4;
                case 's': return 5;
                case 'w': return 6;
                default: return -1;
            }
        }
    }

    /** Reads the TEXT of a PLAN into its ACTS, one behind the other, all repeats laid out. */
    private static final class PlanReader {
        private static final int MOST_ACTS = 200;
        private static final int MOST_OPEN = 2;

        final int[] acts = new int[MOST_ACTS];
        int size;
        private final int[] text;
        private int end;
        private int at;
        private int fault;

        PlanReader(int[] tape) {
            text = tape;
        }

        static int signOf(int act) {
            return act & 255;
        }

        static int digitOf(int act, int which) {
            return (act >> (8 + 4 * which)) & 15;
        }

        /** 0, or the FAULT as it is answered. */
        int readPlan(int n) {
            end = Math.min(n, text.length);
            at = 0;
            size = 0;
            fault = 0;
            for (int i = 0; i < end && at < end && fault == 0; i++) {
                readAct(0);
            }
            return fault;
        }

        private int sign() {
            return at >= 0 && at < end ? text[at] : -1;
        }

        private void fail(int number, int place) {
            if (fault == 0) fault = -1000 * number - place;
        }

        private void readAct(int open) {
            int start = at;
            int times = 1;
            if (sign() >= '2' && sign() <= '9') {
                times = sign() - '0';
                at++;
            }
            int from = size;
            if (sign() == '(') readGroup(open);
            else readSingle(start);
            if (fault == 0) repeat(from, times, start);
        }

        /** How many are open is told on, so that no more than two ever are. */
        private void readGroup(int open) {
            if (open >= MOST_OPEN) {
                fail(5, at);
                return;
            }
            at++;
            readAct(open + 1);
            for (int i = at; i < end && fault == 0 && sign() != ')'; i++) {
                readAct(open + 1);
            }
            if (fault != 0) return;
            if (sign() == ')') at++;
            else fail(1, at);
        }

        private void readSingle(int start) {
            int letter = sign();
            int act = letter;
            int digits = digitCount(letter);
            if (digits < 0) {
                fail(1, at);
                return;
            }
            at++;
            for (int i = 0; i < digits; i++) {
                int digit = sign() - '0';
                if (digit < 0 || digit > mostDigit(letter, i)) {
                    fail(1, at);
                    return;
                }
                boolean isTwo = i == 1 && (letter == 'x' || letter == 'j');
                if (isTwo && digit == digitOf(act, 0)) {
                    fail(7, at);
                    return;
                }
                act |= digit << (8 + 4 * i);
                at++;
            }
            if (size >= MOST_ACTS) {
                fail(6, start);
                return;
            }
            acts[size] = act;
            size++;
        }

        /** What lies from a place on is done so many times in all. */
        private void repeat(int from, int times, int start) {
            int length = size - from;
            if (from + length * times > MOST_ACTS) {
                fail(6, start);
                return;
            }
            int to = from + length * times;
            for (int i = size; i < to; i++) {
                acts[i] = acts[i - length];
            }
            size = to;
        }

        private static int digitCount(int letter) {
            switch (letter) {
                case '.': return 0;
                case 'k': case 'u': case 'c': return 1;
                case 'r': case 'x': case 'j': return 2;
                case 'w': return 3;
                default: return -1;
            }
        }

        /** The first digit is a NODE's, the second of w and r a KEY, of x and j a NODE's. */
        private static int mostDigit(int letter, int which) {
            if (which == 0) return 6;
            if (which == 1) return letter == 'w' || letter == 'r' ? 7 : 6;
            return 9;
        }
    }
}
