/** 'Terms', part 2, sentence by sentence: what is HELD, changes of MEMBERS, READS. */
public final class HoldsTest {
    private HoldsTest() {}

    public static void main(String[] args) {
        greatestIndex();
        ownTerm();
        ofItsConfig();
        jointThenNew();
        jointInTheSnapshot();
        roomForTheLast();
        holdsAgain();
        goes();
        seenHeld();
        heldFirst();
        sixteenReads();
        whoseEntryAtCommit();
        whatAReadHas();
        answersBy();
        othersReads();
        Due.end("HoldsTest");
    }

    private static void greatestIndex() {
        Due.says(0, "HOLDS (a LEADER): the greatest INDEX above COMMIT, up to LAST, at which the ENTRY has"
                + " its TERM and a MAJORITY of its CONFIG has MATCH no less (itself: LAST) becomes"
                + " COMMIT (is there none, COMMIT stays).");
        // of five: 1 has four more, 2 has two more, 3 and 4 none
        TermLog x = Due.settled(31);
        Due.quiet(x);
        Due.law(x, "e40(f=f);x(t>2)");
        x.write(0, 0, 2);
        x.write(0, 0, 3);
        Due.law(x, "e40(f=f);x(t>1)");
        x.write(0, 0, 4);
        x.write(0, 0, 5);
        Due.law(x, "e40(f=f);x(k=2)");
        x.ticks(1);
        Due.due("LASTS", x.nodeIs(1, 4) * 10 + x.nodeIs(2, 4), 53);
        Due.due("COMMIT before", x.nodeIs(0, 5), 1);
        x.ticks(1);
        Due.due("MATCHES", x.about(0, 1, 1) * 10 + x.about(0, 2, 1), 53);
        Due.due("the greatest that three have", x.nodeIs(0, 5), 3);
        Due.due("HELD FOR SURE", x.count(3), 3);
        // two of four are no MAJORITY, three are
        x = Due.settled(15);
        Due.quiet(x);
        x.crash(2);
        x.crash(3);
        x.write(0, 0, 1);
        x.ticks(9);
        Due.due("two of four", x.nodeIs(0, 5), 1);
        x.comeUp(2);
        x.ticks(4);
        Due.due("three of four", x.nodeIs(0, 5), 2);
        // itself: LAST
        x = Due.settled(1);
        Due.due("one alone", x.write(0, 0, 1), 2);
        Due.due("HELD at once", x.nodeIs(0, 5), 2);
        x = Due.settled(3);
        x.write(0, 0, 1);
        Due.due("one of two", x.nodeIs(0, 5), 1);
        x.ticks(2);
        Due.due("two of two", x.nodeIs(0, 5), 2);
        // each NODE counts: n LEADS, another one alone answers
        for (int n = 0; n < 7; n++) {
            int other = (n + 1) % 7;
            x = new TermLog();
            Due.law(x, "e4(f=" + n + ");e40(f=f)");
            x.found(1 << n | 1 << other);
            Due.tickTill(x, y -> y.leaderNow() >= 0);
            x.ticks(1);
            Due.due(n + " with " + other + ", not yet", x.nodeIs(n, 5), 0);
            x.ticks(1);
            Due.due(n + " with " + other, x.nodeIs(n, 5), 1);
            Due.due("a READ of " + n, x.ask(n, 0), 0);
            x.ticks(1);
            Due.due("open", x.readIs(0, 0), 0);
            x.ticks(1);
            Due.due("answered", x.readIs(0, 0), 1);
        }
    }

    private static void ownTerm() {
        Due.says(0, "at which the ENTRY has its TERM and a MAJORITY of its CONFIG");
        TermLog x = Due.settled(7);
        x.crash(1);
        x.crash(2);
        for (int i = 1; i <= 6; i++) x.write(0, 4, i);
        x.crash(0);
        x.ticks(2);
        x.comeUp(1);
        x.comeUp(0);
        Due.makeLead(x, 0);
        Due.law(x, "e40(f=f)");
        Due.due("TERM", x.nodeIs(0, 1), 2);
        Due.due("own ENTRY", x.entryAt(0, 8, 0), 2);
        Due.tickTill(x, y -> y.about(0, 1, 1) != 0);
        Due.due("a MAJORITY has 5", x.about(0, 1, 1), 5);
        Due.due("of the older TERM", x.entryAt(0, 5, 0), 1);
        Due.due("not HELD", x.nodeIs(0, 5), 0);
        Due.tickTill(x, y -> y.about(0, 1, 1) != 5);
        Due.due("a MAJORITY has 8", x.about(0, 1, 1), 8);
        Due.due("all HELD by way of its own", x.nodeIs(0, 5), 8);
        Due.due("HELD at 7", x.heldAt(7, 0), 1);
        Due.due("HELD at 8", x.heldAt(8, 0), 2);
        Due.due("KEY", x.keyOf(0, 4), 6);
    }

    private static void ofItsConfig() {
        Due.says(0, "and a MAJORITY of its CONFIG has MATCH no less (itself: LAST) becomes COMMIT");
        // joint: of 0, 1, 2 and of 0, 3, 4
        TermLog x = Due.settled(7);
        x.crash(2);
        x.crash(3);
        x.crash(4);
        x.change(0, 25);
        x.ticks(20);
        Due.due("of the new ones 0 alone", x.nodeIs(0, 5), 1);
        x.comeUp(3);
        x.ticks(20);
        Due.due("of both two", x.nodeIs(0, 5), 3);
        x = Due.settled(7);
        x.crash(1);
        x.crash(2);
        x.change(0, 25);
        x.ticks(20);
        Due.due("of the old ones 0 alone", x.nodeIs(0, 5), 1);
        x.comeUp(1);
        x.ticks(20);
        Due.due("of both two, again", x.nodeIs(0, 5), 3);
        // a LEADER that is going counts for the old ones alone: of 1, 2 both are needed
        x = Due.settled(7);
        x.change(0, 6);
        x.crash(2);
        x.ticks(20);
        Due.due("one of the new two", x.nodeIs(0, 5), 1);
        Due.due("it is joint", x.nodeIs(0, 9), 6);
        x.comeUp(2);
        x.ticks(3);
        Due.due("two of the new two", x.nodeIs(0, 5) >= 2, true);
    }

    private static void jointThenNew() {
        Due.says(0, "Then, is its CONFIG joint, and HELD by its COMMIT (that ENTRY's INDEX no more than"
                + " COMMIT, or it is the SNAPSHOT's): an ENTRY of its TERM, KIND 1, with the new ones as"
                + " old ones, none new, is laid;");
        TermLog x = Due.settled(7);
        Due.quiet(x);
        x.write(0, 0, 1);
        x.change(0, 7 + 32);
        Due.law(x, "e40(f=f);x(f=5)");
        x.ticks(1);
        Due.due("joint while it is not HELD", x.nodeIs(0, 9), 39);
        x.ticks(1);
        Due.due("HELD by three of four", x.nodeIs(0, 5), 3);
        Due.due("the new ones are laid", x.nodeIs(0, 4), 4);
        int[] parts = {1, 1, 39, 0};
        for (int what = 0; what < 4; what++) {
            Due.due("ENTRY " + what, x.entryAt(0, 4, what), parts[what]);
        }
        Due.due("MATCH of itself", x.about(0, 0, 1), 4);
        Due.due("not laid twice", x.ticks(9) * 10 + x.nodeIs(0, 4), 14);
        // one INDEX below it is HELD, it is not
        x = Due.settled(7);
        Due.quiet(x);
        x.write(0, 0, 1);
        Due.law(x, "e40(f=f);x(k=2)");
        x.change(0, 39);
        x.ticks(2);
        Due.due("HELD to the one ahead", x.nodeIs(0, 5), 2);
        Due.due("joint yet", x.nodeIs(0, 9), 39);
        Due.due("nothing is laid", x.nodeIs(0, 4), 3);
    }

    /** A LEADER whose SNAPSHOT has a joint CONFIG lays the new one as soon as it LEADS. */
    private static void jointInTheSnapshot() {
        Due.says(0, "(that ENTRY's INDEX no more than COMMIT, or it is the SNAPSHOT's)");
        TermLog x = Due.settled(7);
        x.cut(0, 3, true);
        x.change(0, 15);
        x.ticks(1);
        Due.law(x, "e40(f=f);x(k=2)");
        x.ticks(1);
        Due.due("the joint one is HELD", x.nodeIs(0, 5), 2);
        Due.due("COMPACT", x.compact(0), true);
        x.cut(0, 3, false);
        Due.tickTill(x, y -> y.nodeIs(3, 6) == 2);
        Due.due("joint by the SNAPSHOT", x.nodeIs(3, 9), 15);
        Due.due("the last one did not come", x.nodeIs(1, 4), 2);
        x.crash(0);
        Due.makeLead(x, 3);
        Due.due("nothing, at first", x.entryAt(3, 3, 1), 2);
        Due.due("then a CONFIG", x.entryAt(3, 4, 1), 1);
        Due.due("of the new ones", x.entryAt(3, 4, 2), 15);
        Due.due("of its TERM", x.entryAt(3, 4, 0), 2);
        Due.due("not joint", x.nodeIs(3, 9), 0);
        Due.due("sent to all, twice", x.count(2), 6);
        x.ticks(9);
        Due.due("HELD", x.nodeIs(3, 5), 4);
        Due.due("broken", x.broken(0) + x.broken(1) + x.broken(2), 0);
    }

    private static void roomForTheLast() {
        Due.says(0, "is there room for it: MATCH of itself is LAST, it SENDS TO ALL and HOLDS again (what"
                + " follows is asked in that alone).");
        // LAST 998: the joint one is the last that is laid
        TermLog x = NodesTest.far(998);
        x.compact(0);
        Due.law(x, "e40(f=f)");
        Due.due("a change", x.change(0, 3), 999);
        x.ticks(12);
        Due.due("it is HELD", x.nodeIs(0, 5), 999);
        Due.due("by both", x.nodeIs(1, 5), 999);
        Due.due("no room: joint it stays", x.nodeIs(0, 9), 3);
        Due.due("LAST", x.nodeIs(0, 4), 999);
        Due.due("MATCH of itself", x.about(0, 0, 1), 999);
        Due.due("it LEADS yet", x.leaderNow(), 0);
        Due.due("no change", x.change(0, 1), -3);
        x.compact(0);
        x.ticks(6);
        Due.due("joint by the SNAPSHOT", x.nodeIs(0, 9), 3);
        // nothing is sent as there is no room
        x = NodesTest.far(997);
        x.compact(0);
        Due.law(x, "e40(f=f)");
        x.change(0, 2 + 1);
        x.ticks(12);
        x.compact(0);
        Due.due("LAST 999, 0 and 1", x.nodeIs(0, 4) * 10 + x.nodeIs(0, 8), 9993);
        x = NodesTest.far(995);
        x.compact(0);
        Due.law(x, "e40(f=f)");
        x.change(0, 3);
        x.ticks(12);
        x.write(0, 0, 1);
        x.ticks(6);
        Due.quiet(x);
        Due.due("a change at 998", x.change(0, 1), 999);
        x.ask(0, 0);
        x.ticks(2);
        Due.due("HELD", x.nodeIs(0, 5), 999);
        Due.due("joint", x.nodeIs(0, 9), 1);
        Due.due("nothing is sent", Due.way(x), "");
        // LAST 997: there is room for both
        x = NodesTest.far(997);
        x.compact(0);
        Due.law(x, "e40(f=f)");
        Due.due("a change at 997", x.change(0, 3), 998);
        x.ticks(12);
        Due.due("the new ones", x.entryAt(0, 999, 2), 3);
        Due.due("not joint", x.nodeIs(0, 9), 0);
        Due.due("COMMIT", x.nodeIs(0, 5), 999);
    }

    private static void holdsAgain() {
        Due.says(0, "it SENDS TO ALL and HOLDS again");
        // 0 alone is the new one: as the joint one is HELD, the last one is, too
        TermLog x = Due.settled(7);
        Due.quiet(x);
        x.crash(2);
        x.change(0, 1);
        x.ticks(1);
        Due.law(x, "e40(f=f);x(k=2)");
        Due.due("one answers", Due.find(x, 1, 0, 3) >= 0 && Due.find(x, 2, 0, 3) < 0, true);
        Due.due("HELD in the TICK", x.ticks(1), 2);
        Due.due("COMMIT", x.nodeIs(0, 5), 3);
        Due.due("the last one", x.entryAt(0, 3, 2), 1);
        Due.due("it LEADS", x.nodeIs(0, 3), 2);
        // to those of the new CONFIG; then on to each that answers
        x = Due.settled(7);
        Due.quiet(x);
        Due.law(x, "e40(f=f);x(k=2)");
        x.ask(0, 0);
        Due.law(x, "e40(f=f)");
        x.change(0, 11);
        Due.due("to old and new ones", Due.way(x), "012 022 032 ");
        x.ticks(2);
        Due.due("the last CONFIG", x.entryAt(0, 3, 2), 11);
        Due.due("to all of it, and on to 1, 2, 3", Due.way(x), "012 032 012 022 032 ");
        int[] entries = {1, 3, 1, 1, 1};
        for (int i = 0; i < 5; i++) {
            Due.due("from NEXT on, that of 1 is MATCH + 1 already", x.message(i, 5), entries[i]);
        }
        // with 0 going: what follows is asked in that alone, so 0 LEADS till the last one is HELD
        x = Due.settled(7);
        Due.quiet(x);
        x.change(0, 6);
        x.ticks(2);
        Due.due("laid", x.nodeIs(0, 4), 3);
        Due.due("not HELD", x.nodeIs(0, 5), 2);
        Due.due("it LEADS yet", x.nodeIs(0, 3), 2);
    }

    private static void goes() {
        Due.says(0, "Is its CONFIG not joint, HELD by its COMMIT, and it no MEMBER: FOLLOWER, LEADER KNOWN"
                + " none, its READS lost, it SETS TIMER.");
        TermLog x = Due.settled(7);
        Due.quiet(x);
        x.change(0, 6);
        x.ticks(2);
        Due.law(x, "e20-w(f=f)");
        Due.due("laid, not HELD: COMMIT", x.nodeIs(0, 5), 2);
        Due.due("it LEADS", x.nodeIs(0, 3), 2);
        x.ticks(1);
        Due.due("it LEADS yet", x.nodeIs(0, 10), 0);
        x.ticks(1);
        Due.due("HELD", x.nodeIs(0, 5), 3);
        Due.due("FOLLOWER", x.nodeIs(0, 3), 0);
        Due.due("LEADER KNOWN", x.nodeIs(0, 10), -2);
        Due.due("TIMER", x.nodeIs(0, 7), 19);
        Due.due("none LEADS", x.leaderNow(), -2);
        readIsLost();
        // a MEMBER stays
        x = Due.settled(7);
        x.change(0, 3);
        x.ticks(20);
        Due.due("one that stays LEADS", x.nodeIs(0, 3), 2);
        // one that is no MEMBER comes back
        x = Due.settled(7);
        x.change(0, 6);
        x.ticks(12);
        Due.makeLead(x, 1);
        Due.law(x, "e40(f=f)");
        x.ticks(4);
        Due.due("1 LEADS", x.leaderNow(), 1);
        Due.due("back again", x.change(1, 7) > 0, true);
        x.ticks(12);
        Due.due("MEMBERS", x.nodeIs(1, 8), 7);
    }

    /** 1 answers the CONFIG by which 0 goes, but no MAJORITY has HEARD the READ's ROUND. */
    private static void readIsLost() {
        TermLog x = Due.settled(3);
        Due.quiet(x);
        x.change(0, 2);
        x.ticks(2);
        Due.law(x, "e40(f=f);d9(k=2)");
        Due.due("a READ", x.ask(0, 1), 0);
        Due.law(x, "e20-w(f=f)");
        int lot = x.count(6);
        x.ticks(2);
        Due.due("it went", x.nodeIs(0, 3), 0);
        Due.due("its READ is lost", x.readIs(0, 0), 2);
        Due.due("TIMER", x.nodeIs(0, 7), 19);
        Due.due("X moves on", x.count(6) != lot, true);
    }

    private static void seenHeld() {
        Due.says(0, "COMMIT that grows: each ENTRY, by INDEX, is SEEN HELD: a write sets its KEY;");
        TermLog x = Due.settled(7);
        Due.quiet(x);
        x.write(0, 0, 1);
        x.write(0, 7, 9);
        x.write(0, 0, 2);
        x.change(0, 15);
        x.ticks(2);
        Due.due("KEY 0: the later one", x.keyOf(0, 0), 2);
        Due.due("KEY 7", x.keyOf(0, 7), 9);
        for (int key = 1; key < 7; key++) Due.due("KEY " + key, x.keyOf(0, key), 0);
        Due.due("1 has them, but set no KEY", x.nodeIs(1, 4) * 10 + x.keyOf(1, 0), 50);
        x.ticks(6);
        Due.due("1 has set it", x.keyOf(1, 0), 2);
    }

    private static void heldFirst() {
        Due.says(0, "is it the first at this INDEX of all, it is HELD FOR SURE;");
        TermLog x = Due.settled(7);
        Due.quiet(x);
        Due.due("HELD", x.count(3), 1);
        x.write(0, 3, 33);
        x.write(0, 3, 34);
        Due.due("not yet", x.heldAt(2, 0), -2);
        Due.due("in one TICK", x.ticks(1), 0);
        Due.due("in the second", x.ticks(1), 2);
        int[] parts = {1, 0, 3, 33};
        for (int what = 0; what < 4; what++) {
            Due.due("HELD at 2: " + what, x.heldAt(2, what), parts[what]);
        }
        Due.due("HELD at 3", x.heldAt(3, 3), 34);
        Due.due("not once more, as 1 and 2 see it", x.ticks(6), 0);
        Due.due("COMMIT of 2", x.nodeIs(2, 5), 3);
        x.crash(2);
        x.comeUp(2);
        Due.due("nor anew", x.ticks(6), 0);
        Due.due("COMMIT of 2 anew", x.nodeIs(2, 5), 3);
        Due.due("broken", x.broken(0), 0);
    }

    private static void sixteenReads() {
        Due.says(0, "READS 0 on (16 at most, none goes):");
        TermLog x = Due.settled(7);
        for (int i = 0; i < 15; i++) x.ask(0, 0);
        Due.due("15", x.count(7), 15);
        Due.due("a 16th", x.ask(0, 7), 15);
        Due.due("a 17th", x.ask(0, 0), -3);
        Due.due("16", x.count(7), 16);
        Due.due("the last", x.readIs(15, 3), 7);
        Due.due("none behind it", x.readIs(16, 0), -1);
        x.ticks(2);
        Due.due("answered", x.readIs(15, 0), 1);
        Due.due("none goes", x.ask(0, 0), -3);
        x.crash(0);
        Due.due("none goes by a crash", x.count(7), 16);
        Due.due("answered yet", x.readIs(0, 0), 1);
        x.found(3);
        Due.due("none asked since", x.count(7), 0);
        x.ticks(30);
        int leader = x.leaderNow();
        Due.due("asked anew", x.ask(leader, 0), 0);
        Due.due("open, though READ 0 was answered before", x.readIs(0, 0), 0);
    }

    private static void whoseEntryAtCommit() {
        Due.says(0, "asked of a LEADER whose ENTRY at COMMIT (BASE: the SNAPSHOT's TERM) has its own TERM:"
                + " ROUND one more, HEART 0, it SENDS TO ALL;");
        TermLog x = Due.ledByZero(7);
        Due.due("COMMIT 0", x.ask(0, 0), -4);
        x.ticks(1);
        Due.due("COMMIT 0 yet", x.ask(0, 0), -4);
        x.ticks(1);
        Due.due("an ENTRY of its TERM", x.ask(0, 0), 0);
        x.compact(0);
        Due.due("of its TERM by the SNAPSHOT", x.ask(0, 0), 1);
        x.ticks(6);
        Due.makeLead(x, 0);
        Due.due("of an older TERM by the SNAPSHOT", x.ask(0, 0), -4);
        x.ticks(2);
        Due.due("of its TERM again", x.ask(0, 0), 2);
        // one that was LEADER, and did not crash, has COMMIT of an older TERM
        x = Due.settled(7);
        Due.law(x, "e20-w(f=1);e40(f=f)");
        x.ticks(6);
        x.crash(0);
        Due.tickTill(x, y -> y.leaderNow() == 1);
        Due.due("COMMIT of an older TERM", x.nodeIs(1, 5), 1);
        Due.due("not its own", x.ask(1, 0), -4);
        // ROUND, HEART, to all
        x = Due.settled(7);
        Due.quiet(x);
        int round = x.nodeIs(0, 12);
        x.ask(0, 0);
        Due.due("ROUND", x.nodeIs(0, 12), round + 1);
        Due.due("to all", Due.way(x), "012 022 ");
        x.ask(0, 0);
        Due.due("ROUND again", x.nodeIs(0, 12), round + 2);
        Due.due("to all again", Due.way(x), "012 022 012 022 ");
        x.ticks(2);
        Due.due("HEART 2", x.nodeIs(0, 12), round + 2);
        x.ticks(1);
        Due.due("HEART 3", x.nodeIs(0, 12), round + 3);
    }

    private static void whatAReadHas() {
        Due.says(0, "the READ has the NODE, the KEY, that ROUND, and the greatest INDEX HELD FOR SURE of"
                + " all then (none: 0); it ANSWERS.");
        TermLog x = new TermLog();
        x.found(64);
        Due.tickTill(x, y -> y.leaderNow() == 6);
        x.write(6, 5, 55);
        Due.due("a READ of one alone", x.ask(6, 5), 0);
        int[] parts = {1, 55, 6, 5};
        for (int what = 0; what < 4; what++) {
            Due.due("answered at once: " + what, x.readIs(0, what), parts[what]);
        }
        Due.due("nothing BROKEN", x.broken(0), 0);
        x = Due.settled(7);
        x.write(0, 2, 22);
        x.ask(0, 2);
        int[] open = {0, -2, 0, 2};
        for (int what = 0; what < 4; what++) {
            Due.due("open: " + what, x.readIs(0, what), open[what]);
        }
    }

    private static void answersBy() {
        Due.says(0, "ANSWERS: each of its open READS, by numbers, if a MAJORITY of its CONFIG has HEARD no"
                + " less than its ROUND (itself: yes), is answered by the KEY as it is;");
        // HEARD one less, the same, one more
        TermLog x = Due.settled(7);
        Due.quiet(x);
        x.crash(2);
        x.ask(0, 0);
        Due.law(x, "e40(f=f);x(k=2)");
        x.ask(0, 0);
        int round = x.nodeIs(0, 12);
        x.ticks(2);
        Due.due("HEARD", x.about(0, 1, 2), round - 1);
        Due.due("the same", x.readIs(0, 0), 1);
        Due.due("one less", x.readIs(1, 0), 0);
        Due.law(x, "e40(f=f)");
        x.ticks(3);
        Due.due("HEARD more", x.about(0, 1, 2) > round, true);
        Due.due("one more", x.readIs(1, 0), 1);
        // of four, two are none
        x = Due.settled(15);
        Due.quiet(x);
        x.crash(2);
        x.crash(3);
        x.ask(0, 0);
        x.ticks(9);
        Due.due("two of four", x.readIs(0, 0), 0);
        x.comeUp(3);
        x.ticks(6);
        Due.due("three of four", x.readIs(0, 0), 1);
        // the KEY as it is when it is answered
        x = Due.settled(7);
        Due.quiet(x);
        x.write(0, 4, 40);
        x.ticks(4);
        Due.quiet(x);
        Due.law(x, "e40(f=f);x(k=2)");
        x.ask(0, 4);
        Due.law(x, "e40(f=f)");
        x.write(0, 4, 41);
        x.ticks(2);
        Due.due("HELD meanwhile", x.keyOf(0, 4), 41);
        Due.due("answered by it", x.readIs(0, 1), 41);
        x.write(0, 4, 42);
        x.ticks(4);
        Due.due("the value stays", x.readIs(0, 1), 41);
        // joint: a MAJORITY of both
        x = Due.settled(7);
        Due.quiet(x);
        x.crash(5);
        x.crash(6);
        x.change(0, 97);
        x.ask(0, 0);
        x.ticks(6);
        Due.due("of the new ones 0 alone", x.readIs(0, 0), 0);
        x.comeUp(6);
        x.ticks(6);
        Due.due("of both", x.readIs(0, 0), 1);
    }

    private static void othersReads() {
        Due.says(0, "ANSWERS: each of its open READS,");
        TermLog x = Due.settled(7);
        Due.quiet(x);
        x.write(0, 1, 1);
        x.ticks(4);
        x.cut(0, 1, true);
        x.cut(0, 2, true);
        x.ask(0, 1);
        Due.makeLead(x, 1);
        Due.law(x, "e40(f=f)");
        x.ticks(3);
        Due.due("0 LEADS, too", x.nodeIs(0, 3), 2);
        Due.due("a READ of 1", x.ask(1, 1), 1);
        x.ticks(3);
        Due.due("its own is answered", x.readIs(1, 0), 1);
        Due.due("another's is open", x.readIs(0, 0), 0);
        x.crash(1);
        Due.due("by a crash of 1 it is open", x.readIs(0, 0), 0);
        x.crash(0);
        Due.due("by a crash of 0 it is lost", x.readIs(0, 0), 2);
        Due.due("an answered one stays", x.readIs(1, 0), 1);
    }
}
