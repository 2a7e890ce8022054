/** 'Terms', part 1, sentence by sentence: NODES, ENTRIES, CONFIGS, room, MESSAGES. */
public final class NodesTest {
    private NodesTest() {}

    public static void main(String[] args) {
        sevenNodes();
        keptOverACrash();
        itsSnapshot();
        notKept();
        anEntry();
        aConfig();
        lastConfigCounts();
        majorities();
        members();
        fortyEightEntries();
        index999();
        compactsAt48();
        stillFull();
        compacts();
        messages160();
        whatAMessageHas();
        lostWhenDue();
        Due.end("NodesTest");
    }

    private static void sevenNodes() {
        Due.says(0, "1. NODES 0 to 6, each UP or DOWN (at first all UP).");
        TermLog x = new TermLog();
        for (int n = 0; n <= 6; n++) Due.due("UP " + n, x.nodeIs(n, 0), 1);
        Due.due("UP -1", x.nodeIs(-1, 0), -1);
        Due.due("UP 7", x.nodeIs(7, 0), -1);
        Due.due("all UP", x.count(1), 127);
        for (int n = 0; n <= 6; n++) {
            x.crash(n);
            Due.due("DOWN " + n, x.nodeIs(n, 0), 0);
            Due.due("six UP", x.count(1), 127 - (1 << n));
            x.comeUp(n);
        }
    }

    private static void keptOverACrash() {
        Due.says(0, "Of each, kept over a crash: TERM (0 at first), VOTE (a NODE or none), a LOG of"
                + " ENTRIES by INDEX from BASE + 1 on to LAST (none: LAST is BASE),");
        TermLog x = new TermLog();
        Due.due("TERM at first", x.nodeIs(0, 1), 0);
        Due.due("no VOTE", x.nodeIs(0, 2), -2);
        Due.due("LAST is BASE", x.nodeIs(0, 4), x.nodeIs(0, 6));
        Due.due("no ENTRY", x.entryAt(0, 1, 0), -2);
        x = Due.settled(7);
        x.write(0, 1, 11);
        x.ticks(2);
        x.compact(1);
        x.write(0, 2, 22);
        x.write(0, 3, 33);
        x.ticks(1);
        x.crash(1);
        for (int up = 0; up < 2; up++) {
            Due.due("TERM", x.nodeIs(1, 1), 1);
            Due.due("VOTE", x.nodeIs(1, 2), 0);
            Due.due("BASE", x.nodeIs(1, 6), 1);
            Due.due("no ENTRY at BASE", x.entryAt(1, 1, 0), -2);
            Due.due("at BASE + 1", x.entryAt(1, 2, 3), 11);
            Due.due("at LAST", x.entryAt(1, x.nodeIs(1, 4), 3), 33);
            Due.due("LAST", x.nodeIs(1, 4), 4);
            Due.due("behind LAST", x.entryAt(1, 5, 0), -2);
            x.comeUp(1);
        }
        x = Due.settled(7);
        x.compact(0);
        Due.due("none: LAST is BASE", x.nodeIs(0, 4), 1);
        Due.due("BASE", x.nodeIs(0, 6), 1);
        Due.due("none at BASE", x.entryAt(0, 1, 0), -2);
        Due.due("none behind BASE", x.entryAt(0, 2, 0), -2);
    }

    private static void itsSnapshot() {
        Due.says(0, "and its SNAPSHOT: BASE (an INDEX), the TERM of that, CONFIG, KEYS as they were"
                + " at BASE (at first 0, 0, the founding CONFIG, all 0).");
        TermLog x = new TermLog();
        x.found(42);
        Due.due("BASE at first", x.nodeIs(3, 6), 0);
        Due.due("TERM of it", x.nodeIs(3, 13), 0);
        Due.due("CONFIG", x.nodeIs(3, 8), 42);
        Due.due("not joint", x.nodeIs(3, 9), 0);
        for (int key = 10; key < 18; key++) Due.due("KEY " + key, x.keyOf(3, key), 0);
        x = Due.settled(7);
        x.write(0, 5, 55);
        x.change(0, 3);
        x.ticks(9);
        x.compact(0);
        x.crash(0);
        for (int up = 0; up < 2; up++) {
            Due.due("BASE", x.nodeIs(0, 6), 4);
            Due.due("TERM of BASE", x.nodeIs(0, 13), 1);
            Due.due("CONFIG of BASE", x.nodeIs(0, 8), 3);
            Due.due("new ones of it", x.nodeIs(0, 9), 0);
            Due.due("KEY 5", x.keyOf(0, 15), 55);
            Due.due("KEY 4", x.keyOf(0, 14), 0);
            x.comeUp(0);
        }
    }

    private static void notKept() {
        Due.says(0, "Not kept: ROLE (0 FOLLOWER, 1 CANDIDATE, 2 LEADER), COMMIT (an INDEX), KEYS 0"
                + " to 7 (0 to 99 each), TIMER,");
        TermLog x = Due.settled(7);
        x.write(0, 0, 99);
        x.write(0, 7, 1);
        x.ticks(6);
        Due.due("LEADER", x.nodeIs(0, 3), 2);
        Due.due("FOLLOWER", x.nodeIs(1, 3), 0);
        Due.due("COMMIT", x.nodeIs(0, 5), 3);
        Due.due("KEY 0", x.keyOf(0, 0), 99);
        Due.due("KEY 7", x.keyOf(0, 7), 1);
        Due.due("no KEY 8", x.keyOf(0, 8), -1);
        Due.law(x, "e40(f=f)");
        x.crash(0);
        x.comeUp(0);
        Due.due("ROLE then", x.nodeIs(0, 3), 0);
        Due.due("COMMIT then", x.nodeIs(0, 5), 0);
        Due.due("KEY 0 then", x.keyOf(0, 0), 0);
        Due.due("KEY 7 then", x.keyOf(0, 7), 0);
        Due.due("TIMER then", x.nodeIs(0, 7), 40 + x.count(6) % 10);
        x = new TermLog();
        x.ticks(10);
        Due.due("CANDIDATE", x.nodeIs(0, 3), 1);
        x.crash(0);
        x.comeUp(0);
        Due.due("no CANDIDATE", x.nodeIs(0, 3), 0);

        Due.says(0, "whom it follows (LEADER KNOWN, a NODE or none), VOTES it has (bits), and, of a"
                + " LEADER, NEXT, MATCH and HEARD of each NODE, ROUND and HEART.");
        x = Due.settled(31);
        Due.due("LEADER KNOWN", x.nodeIs(1, 10), 0);
        Due.due("LEADER KNOWN of the LEADER", x.nodeIs(0, 10), 0);
        Due.due("VOTES", x.nodeIs(0, 11), 7);
        Due.due("ROUND", x.nodeIs(0, 12) > 1, true);
        Due.due("MATCH", x.about(0, 1, 1), 1);
        x.crash(0);
        x.crash(1);
        x.comeUp(0);
        x.comeUp(1);
        Due.due("LEADER KNOWN then", x.nodeIs(1, 10), -2);
        Due.due("LEADER KNOWN of 0 then", x.nodeIs(0, 10), -2);
        Due.due("VOTES then", x.nodeIs(0, 11), 0);
        Due.due("ROUND then", x.nodeIs(0, 12), 0);
        Due.due("MATCH then", x.about(0, 1, 1), -2);
        Due.tickTill(x, y -> y.leaderNow() == 0);
        Due.due("MATCH anew", x.about(0, 1, 1), 0);
        Due.due("HEARD anew", x.about(0, 1, 2), 0);
    }

    private static void anEntry() {
        Due.says(0, "AN ENTRY: TERM, KIND (0 a write: KEY, value; 1 a CONFIG: old ones, new ones,"
                + " bits; 2 nothing: 0, 0).");
        TermLog x = Due.settled(64 + 7);
        x.write(0, 7, 99);
        x.write(0, 0, 0);
        x.change(0, 127);
        int[][] all = {{1, 2, 0, 0}, {1, 0, 7, 99}, {1, 0, 0, 0}, {1, 1, 71, 127}};
        for (int i = 0; i < 4; i++) {
            for (int what = 0; what < 4; what++) {
                Due.due("ENTRY " + (i + 1) + " " + what, x.entryAt(0, i + 1, what), all[i][what]);
            }
        }
    }

    private static void aConfig() {
        Due.says(0, "A CONFIG: old NODES and new NODES (bits; new 0: not joint).");
        TermLog x = Due.settled(7);
        Due.due("old ones", x.nodeIs(0, 8), 7);
        Due.due("not joint", x.nodeIs(0, 9), 0);
        x.change(0, 81);
        Due.due("old ones of a joint one", x.nodeIs(0, 8), 7);
        Due.due("new ones", x.nodeIs(0, 9), 81);
        x.ticks(12);
        Due.due("old ones then", x.nodeIs(0, 8), 81);
        Due.due("not joint then", x.nodeIs(0, 9), 0);
    }

    private static void lastConfigCounts() {
        Due.says(0, "A NODE's CONFIG is that of the last ENTRY of KIND 1 in its LOG, held for sure or"
                + " not; is there none, that of its SNAPSHOT.");
        TermLog x = Due.settled(7);
        x.cut(0, 1, true);
        x.cut(0, 2, true);
        x.change(0, 15);
        x.write(0, 0, 1);
        Due.due("not HELD", x.nodeIs(0, 5), 1);
        Due.due("it counts", x.nodeIs(0, 9), 15);
        // when it goes, the one before counts again
        Due.makeLead(x, 1);
        x.ticks(6);
        Due.due("it counts yet", x.nodeIs(0, 9), 15);
        x.cut(0, 1, false);
        x.ticks(6);
        Due.due("another ENTRY is there", x.entryAt(0, 2, 1), 2);
        Due.due("it went: old ones", x.nodeIs(0, 8), 7);
        Due.due("it went: new ones", x.nodeIs(0, 9), 0);
        // the last of two; in the SNAPSHOT, too
        x = Due.settled(7);
        x.change(0, 15);
        x.ticks(12);
        Due.due("joint", x.entryAt(0, 2, 3), 15);
        Due.due("then not", x.entryAt(0, 3, 3), 0);
        Due.due("the last: old ones", x.nodeIs(0, 8), 15);
        Due.due("the last: new ones", x.nodeIs(0, 9), 0);
        x.compact(0);
        Due.due("of the SNAPSHOT", x.nodeIs(0, 8), 15);
        x.change(0, 7);
        Due.due("a LOG's ahead of it", x.nodeIs(0, 9), 7);
    }

    private static void majorities() {
        Due.says(0, "A MAJORITY of a CONFIG: more than half of the old ones and, if it is joint, more"
                + " than half of the new ones.");
        int[] configs = {1, 96, 7, 60, 31, 126, 127};
        for (int config : configs) {
            TermLog x = new TermLog();
            x.found(config);
            for (int some = 0; some < 128; some++) {
                boolean is = isMoreThanHalf(some, config);
                Due.due(some + " of " + config, x.majority(0, some), is ? 1 : 0);
            }
        }
        int[][] joint = {{7, 15}, {7, 3}, {15, 120}, {7, 126}};
        for (int[] two : joint) {
            TermLog x = Due.settled(two[0]);
            Due.due("joint " + two[1], x.change(0, two[1]), 2);
            for (int some = 0; some < 128; some++) {
                boolean is = isMoreThanHalf(some, two[0]) && isMoreThanHalf(some, two[1]);
                Due.due(some + " of both", x.majority(0, some), is ? 1 : 0);
            }
        }
    }

    private static boolean isMoreThanHalf(int some, int of) {
        int in = 0;
        int all = 0;
        for (int n = 0; n < 7; n++) {
            all += of >> n & 1;
            in += (some & of) >> n & 1;
        }
        return in > all - in;
    }

    private static void members() {
        Due.says(0, "MEMBERS: old and new ones.");
        TermLog x = Due.settled(7);
        Due.quiet(x);
        x.change(0, 25);
        Due.due("sent to old and new ones", Due.way(x), "012 022 032 042 ");
        Due.due("old ones could win", x.couldWin(0, 1), 31);
        x.ticks(1);
        Due.due("a new one is a MEMBER", x.couldWin(3, 0) >= 0, true);
        Due.due("one of neither is none", x.couldWin(5, 0), -2);
        x = Due.settled(7);
        Due.quiet(x);
        x.change(0, 7 + 64);
        Due.due("one of both gets one", Due.way(x), "012 022 062 ");
    }

    /** 0 LEADS, 1 has ENTRIES 1 to 46, all of them HELD. */
    private static TermLog fortySix() {
        TermLog x = Due.settled(7);
        Due.due("36 writes", Due.plan(x, "9(4w001)"), 36);
        x.ticks(30);
        x.compact(0);
        Due.due("nine more", Due.plan(x, "9w002"), 9);
        x.ticks(12);
        Due.due("LAST of 1", x.nodeIs(1, 4), 46);
        Due.due("COMMIT of 1", x.nodeIs(1, 5), 46);
        Due.due("BASE of 1", x.nodeIs(1, 6), 0);
        return x;
    }

    private static void compactsAt48() {
        TermLog x = fortySix();
        Due.says(0, "Is one to be laid behind the last and there are 48, the NODE COMPACTS first;");
        x.write(0, 4, 47);
        x.ticks(6);
        Due.due("at 46: LAST", x.nodeIs(1, 4), 47);
        Due.due("at 46: BASE", x.nodeIs(1, 6), 0);
        x.write(0, 4, 48);
        x.ticks(6);
        Due.due("at 47: LAST", x.nodeIs(1, 4), 48);
        Due.due("at 47: BASE", x.nodeIs(1, 6), 0);
        Due.due("at 47: all are there", x.entryAt(1, 1, 1), 2);
        x.write(0, 4, 49);
        x.ticks(1);
        Due.due("at 48: LAST", x.nodeIs(1, 4), 49);
        Due.due("at 48: BASE", x.nodeIs(1, 6), 48);
        Due.due("at 48: KEY of the SNAPSHOT", x.keyOf(1, 14), 48);
        Due.due("at 48: TERM, KIND of the ENTRY", x.entryAt(1, 49, 0) + x.entryAt(1, 49, 1), 1);
        Due.due("at 48: the ENTRY", x.entryAt(1, 49, 3), 49);
        Due.due("at 48: none at BASE", x.entryAt(1, 48, 0), -2);
    }

    /** Answers to ENTRIES are lost, so nothing is HELD; each election lays one ENTRY more. */
    static TermLog leaderOfMany(int entries) {
        TermLog x = new TermLog();
        Due.law(x, "e4(f=0);e40(f=f);x(k=3)");
        x.found(7);
        x.ticks(x.till(200, 0));
        Due.plan(x, "9(4w001)3w001");
        Due.due("LAST", x.nodeIs(0, 4), 40);
        for (int last = 41; last <= entries; last++) electAgain(x, last);
        return x;
    }

    private static void electAgain(TermLog x, int last) {
        x.crash(0);
        x.comeUp(0);
        int till = x.till(200, 0);
        x.ticks(till);
        Due.due("LEADER NOW", x.leaderNow(), 0);
        Due.due("LAST behind it", x.nodeIs(0, 4), last);
        Due.due("MATCH of itself", x.about(0, 0, 1), last);
    }

    private static void fortyEightEntries() {
        Due.says(0, "Room: a LOG has at most 48 ENTRIES, none of an INDEX above 999.");
        TermLog x = leaderOfMany(47);
        Due.due("47", x.nodeIs(0, 4) - x.nodeIs(0, 6), 47);
        electAgain(x, 48);
        Due.due("48", x.nodeIs(0, 4) - x.nodeIs(0, 6), 48);
        Due.due("the last one", x.entryAt(0, 48, 1), 2);
        electAgain(x, 48);
        Due.due("no 49th", x.nodeIs(0, 4) - x.nodeIs(0, 6), 48);
        Due.due("none there", x.entryAt(0, 49, 0), -2);
        x = far(998);
        Due.due("at 998", x.write(0, 3, 33), 999);
        Due.due("an ENTRY at 999", x.entryAt(0, 999, 3), 33);
        x.compact(0);
        Due.due("room, but no INDEX", x.write(0, 0, 0), -3);
        Due.due("LAST", x.nodeIs(0, 4), 999);
        x.crash(0);
        x.comeUp(0);
        x.ticks(20);
        Due.due("elected anew", x.leaderNow(), 0);
        Due.due("nothing is laid", x.nodeIs(0, 4), 999);
    }

    /** 0 alone with so many INDEXES, all HELD, the most of them in its SNAPSHOT. */
    static TermLog far(int last) {
        TermLog x = Due.settled(1);
        for (int i = 0; i < 6; i++) Due.plan(x, "5(9(3w001)c0.)");
        for (int i = 0; i < 40 && x.nodeIs(0, 4) < last; i++) {
            x.compact(0);
            int some = Math.min(9, last - x.nodeIs(0, 4));
            Due.plan(x, some == 1 ? "w001" : some + "w001");
        }
        Due.due("LAST", x.nodeIs(0, 4), last);
        Due.due("HELD", x.count(3), last);
        return x;
    }

    private static void index999() {
        TermLog x = leaderOfMany(48);
        Due.says(0, "are there 48 still, or is LAST 999, it is not laid.");
        Due.due("nothing HELD", x.count(3), 0);
        Due.due("TERM of LAST", x.nodeIs(0, 13), x.nodeIs(0, 1));
        electAgain(x, 48);
        Due.due("not laid: TERM of LAST", x.nodeIs(0, 13), x.nodeIs(0, 1) - 1);
        Due.due("not laid: BASE", x.nodeIs(0, 6), 0);
        // elected at 998 and at 999; a LOG without ENTRIES has no room either
        x = far(998);
        Due.makeLead(x, 0);
        Due.due("laid at 999", x.entryAt(0, 999, 1), 2);
        Due.due("TERM of LAST", x.nodeIs(0, 13), 2);
        x.compact(0);
        Due.makeLead(x, 0);
        Due.due("no INDEX 1000", x.nodeIs(0, 4), 999);
        Due.due("TERM of LAST then", x.nodeIs(0, 13), 2);
        Due.due("TERM", x.nodeIs(0, 1), 3);
    }

    /** 1 and 2 have 48 ENTRIES and know of none that it is HELD when the 49th comes. */
    private static void stillFull() {
        TermLog x = leaderOfMany(48);
        Due.law(x, "e4(f=0);e40(f=f)");
        Due.tickTill(x, y -> y.count(3) >= 48);
        Due.due("LAST of 1", x.nodeIs(1, 4), 48);
        Due.due("COMMIT of 1", x.nodeIs(1, 5), 0);
        Due.due("COMPACT", x.compact(0), true);
        Due.says(0, "one behind LAST is laid (is there no room: it and those behind it are not).");
        Due.law(x, "e4(f=0);e40(f=f);x(f=0)");
        Due.due("a write", x.write(0, 5, 50), 49);
        Due.law(x, "e4(f=0);e40(f=f)");
        Due.due("another, sent with it", x.write(0, 5, 51), 50);
        Due.tickTill(x, y -> y.nodeIs(1, 5) != 0);
        Due.due("1 has no room", x.nodeIs(1, 4), 48);
        Due.due("1 knows all it has HELD", x.nodeIs(1, 5), 48);
        Due.due("BASE of 1", x.nodeIs(1, 6), 0);
        x.ticks(1);
        Due.due("REACHED is the last it has", x.about(0, 1, 1), 48);
        Due.due("they are not HELD", x.count(3), 48);
        Due.tickTill(x, y -> y.nodeIs(1, 4) == 50);
        Due.due("1 COMPACTED", x.nodeIs(1, 6), 48);
        Due.due("the ENTRY", x.entryAt(1, 49, 3), 50);
        x.ticks(4);
        Due.due("50 ENTRIES are HELD", x.count(3), 50);
        Due.due("broken", x.broken(0) + x.broken(1) + x.broken(2), 0);
    }

    private static void compacts() {
        Due.says(0, "COMPACT: BASE becomes COMMIT: its TERM, CONFIG (of the last ENTRY of KIND 1 up to"
                + " COMMIT, else as it was), KEYS as they are; ENTRIES up to COMMIT go.");
        TermLog x = Due.settled(7);
        x.write(0, 3, 33);
        x.ticks(2);
        x.write(0, 3, 44);
        Due.due("COMMIT", x.nodeIs(0, 5), 2);
        Due.due("compact", x.compact(0), true);
        Due.due("BASE", x.nodeIs(0, 6), 2);
        Due.due("LAST", x.nodeIs(0, 4), 3);
        Due.due("ENTRY at BASE", x.entryAt(0, 2, 0), -2);
        Due.due("ENTRY behind", x.entryAt(0, 3, 3), 44);
        Due.due("KEY", x.keyOf(0, 13), 33);
        Due.due("CONFIG as it was", x.nodeIs(0, 8), 7);
        // once more, with a BASE
        x.ticks(2);
        x.write(0, 3, 55);
        x.write(0, 3, 66);
        Due.due("compact again", x.compact(0), true);
        Due.due("BASE then", x.nodeIs(0, 6), 3);
        Due.due("LAST then", x.nodeIs(0, 4), 5);
        Due.due("ENTRY at it", x.entryAt(0, 3, 0), -2);
        Due.due("the first behind it", x.entryAt(0, 4, 3), 55);
        Due.due("the last behind it", x.entryAt(0, 5, 3), 66);
        Due.due("KEY then", x.keyOf(0, 13), 44);
        // the TERM of that ENTRY, not the NODE's own
        x = Due.settled(7);
        Due.law(x, "e4(f=2);e40(f=f);x(k=2)");
        x.crash(2);
        x.comeUp(2);
        Due.tickTill(x, y -> y.nodeIs(1, 1) == 2);
        Due.due("COMMIT of 1 then", x.nodeIs(1, 5), 1);
        Due.due("compact 1", x.compact(1), true);
        Due.due("TERM of BASE", x.nodeIs(1, 13), 1);
        // the CONFIG up to COMMIT, not a later one
        for (int bases = 0; bases < 2; bases++) {
            x = Due.settled(7);
            if (bases > 0) x.compact(0);
            x.write(0, 0, 1);
            x.ticks(2);
            x.cut(0, 1, true);
            x.cut(0, 2, true);
            x.change(0, 15);
            Due.due("compact below the CONFIG", x.compact(0), true);
            Due.due("joint by the LOG", x.nodeIs(0, 9), 15);
            Due.makeLead(x, 1);
            x.ticks(3);
            x.cut(0, 1, false);
            x.ticks(6);
            Due.due("the ENTRY goes: old ones", x.nodeIs(0, 8), 7);
            Due.due("the ENTRY goes: new ones", x.nodeIs(0, 9), 0);
        }
        // the last of two up to COMMIT; a joint one, too
        x = Due.settled(7);
        x.change(0, 15);
        Due.tickTill(x, y -> y.nodeIs(0, 5) == 2);
        x.compact(0);
        x.crash(0);
        Due.due("one behind it is in the LOG", x.nodeIs(0, 9), 0);
        Due.due("at", x.entryAt(0, 3, 2), 15);
        x = Due.settled(7);
        x.change(0, 15);
        x.ticks(12);
        Due.due("both HELD", x.nodeIs(0, 5), 3);
        x.compact(0);
        Due.due("the last of two: old ones", x.nodeIs(0, 8), 15);
        Due.due("the last of two: new ones", x.nodeIs(0, 9), 0);
    }

    private static void messages160() {
        Due.says(0, "MESSAGES on their way: 160 at most (one more is lost).");
        TermLog x = Due.settled(15);
        Due.quiet(x);
        Due.law(x, "e40(f=f);d9(f=f)");
        Due.due("39 writes", Due.plan(x, "9(4w001)2w001"), 38);
        for (int i = 0; i < 15; i++) x.ask(0, 0);
        Due.due("53 to three", x.count(2), 159);
        Due.due("none is lost", x.count(8), 0);
        int last = Due.xBehind(x.count(6), 3);
        x.ask(0, 0);
        Due.due("one more", x.count(2), 160);
        Due.due("it is the first of three", x.message(159, 1), 1);
        Due.due("none behind it", x.message(160, 1), -4);
        Due.due("two are lost", x.count(8), 2);
        Due.due("with their DRAWS", x.count(6), last);
        x.change(0, 7);
        Due.due("160 stay", x.count(2), 160);
        Due.due("three more are lost", x.count(8), 5);
        x.ticks(10);
        Due.due("all are handed over", x.nodeIs(1, 4) > 1, true);
    }

    private static void whatAMessageHas() {
        Due.says(0, "Each: from, to, KIND 0 to 5, the sender's TERM, and what is told below;");
        TermLog x = Due.settled(7);
        Due.quiet(x);
        x.crash(1);
        x.write(0, 0, 1);
        Due.due("KIND 2", Due.way(x), "012 022 ");
        x.ticks(1);
        Due.due("KIND 3", Due.find(x, 2, 0, 3), 0);
        x.ticks(5);
        x.compact(0);
        x.comeUp(1);
        Due.tickTill(x, y -> y.count(2) == 2);
        Due.due("KIND 4", Due.way(x), "014 022 ");
        x.ticks(1);
        Due.due("KIND 5", Due.way(x), "105 203 ");
        Due.quiet(x);
        x.crash(0);
        Due.standSoon(x, 2);
        x.ticks(4);
        Due.due("KIND 0", Due.way(x), "200 210 ");
        x.ticks(1);
        Due.due("KIND 1", Due.way(x), "121 ");
        Due.due("the sender's TERM", x.message(0, 3), 2);
        // the TERM is the sender's as it was SENT
        x = new TermLog();
        Due.law(x, "e4(f=0);e40(f=f);d9(k=0)");
        x.found(7);
        x.crash(0);
        x.seed(Due.seedFor(0, 1));
        x.comeUp(0);
        x.ticks(4);
        Due.due("two of KIND 0", Due.way(x), "010 020 ");
        Due.due("TERM", x.message(0, 3), 1);
        x.ticks(5);
        Due.due("two more", Due.way(x), "010 020 010 020 ");
        Due.due("TERM of 0", x.nodeIs(0, 1), 2);
        Due.due("the last is of TERM 2", x.message(3, 3), 2);
        Due.due("the first is of TERM 1 yet", x.message(0, 3), 1);
    }

    private static void lostWhenDue() {
        Due.says(0, "When it is due it is lost if the receiver is DOWN or the link between both is cut"
                + " then.");
        TermLog x = Due.settled(7);
        Due.quiet(x);
        Due.law(x, "e40(f=f);d2(f=f)");
        // not so when it is due, whatever was when it was SENT
        x.crash(1);
        x.cut(0, 2, true);
        x.write(0, 0, 1);
        x.ticks(2);
        x.comeUp(1);
        x.cut(0, 2, false);
        x.ticks(1);
        Due.due("UP again", x.nodeIs(1, 4), 2);
        Due.due("joined again", x.nodeIs(2, 4), 2);
        Due.due("none is lost", x.count(8), 0);
        // DOWN, cut when it is due
        x = Due.settled(15);
        Due.quiet(x);
        Due.law(x, "e40(f=f);d2(f=f)");
        x.write(0, 0, 1);
        x.ticks(2);
        x.crash(1);
        x.cut(2, 0, true);
        x.cut(1, 3, true);
        x.crash(0);
        x.ticks(1);
        Due.due("DOWN", x.nodeIs(1, 4), 1);
        Due.due("cut", x.nodeIs(2, 4), 1);
        Due.due("not the sender DOWN, not another link", x.nodeIs(3, 4), 2);
        Due.due("two are lost", x.count(8), 2);
        Due.due("1 answers not", Due.find(x, 1, 0, 3), -1);
        Due.due("2 answers not", Due.find(x, 2, 0, 3), -1);
        Due.due("3 answers", Due.find(x, 3, 0, 3) >= 0, true);
    }
}
