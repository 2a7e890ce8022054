/** Each promise by itself, in ordinary use and with what is not to be had. */
public final class PromiseTest {
    private PromiseTest() {}

    public static void main(String[] args) {
        promise1NewObject();
        promise2Found();
        promise3Crash();
        promise4ComeUp();
        promise5Cut();
        promise6Compact();
        promise7Write();
        promise8Change();
        promise9Ask();
        promise10Feed();
        promise11Law();
        promise12Plan();
        promise13Ticks();
        promise14Tried();
        promise15NodeIs();
        promise16EntryAt();
        promise17KeyOf();
        promise18About();
        promise19Message();
        promise20LeaderNow();
        promise21HeldAt();
        promise22ReadIs();
        promise23Broken();
        promise24CouldWin();
        promise25Majority();
        promise26Till();
        promise27Seed();
        promise28And29KeepUndo();
        promise30Check();
        promise31Count();
        Due.end("PromiseTest");
    }

    private static void promise1NewObject() {
        TermLog x = new TermLog();
        int[] counts = {0, 127, 0, 0, 0, 0, Due.xBehind(1, 7), 0, 0, 0};
        for (int what = 0; what < 10; what++) Due.due("new count", x.count(what), counts[what]);
        for (int n = 0; n < 7; n++) {
            int[] facts = {1, 0, -2, 0, 0, 0, 0, 8 + Due.xBehind(1, n + 1) % 10, 7, 0, -2, 0, 0, 0};
            for (int what = 0; what < 14; what++) {
                Due.due("new nodeIs " + n + " " + what, x.nodeIs(n, what), facts[what]);
            }
            for (int key = 0; key < 8; key++) {
                Due.due("new keyOf", x.keyOf(n, key) + x.keyOf(n, 10 + key), 0);
            }
        }
        Due.due("new undo", x.undo(), false);
    }

    private static void promise2Found() {
        TermLog x = Due.settled(31);
        x.keep();
        x.write(0, 1, 9);
        x.ask(0, 1);
        x.ticks(4);
        x.crash(2);
        x.cut(0, 1, true);
        x.write(0, 2, 8);
        int before = x.count(6);
        Due.law(x, "e10+f(f=f)");
        x.feed(1, 2, 3, 4, 5);
        Due.due("found", x.found(42), true);
        int[] counts = {0, 127, 0, 0, 1, 20, Due.xBehind(before, 7), 0, 0, 0};
        for (int what = 0; what < 10; what++) {
            Due.due("found: count " + what, x.count(what), counts[what]);
        }
        for (int n = 0; n < 7; n++) {
            int timer = 10 + n + Due.xBehind(before, n + 1) % 10;
            int[] facts = {1, 0, -2, 0, 0, 0, 0, timer, 42, 0, -2, 0, 0, 0};
            for (int what = 0; what < 14; what++) {
                Due.due("found: nodeIs " + n + " " + what, x.nodeIs(n, what), facts[what]);
            }
            Due.due("found: KEYS", x.keyOf(n, 1) + x.keyOf(n, 2) + x.keyOf(n, 11), 0);
        }
        Due.due("found: HELD", x.heldAt(1, 0), -2);
        Due.due("found: BROKEN", x.broken(0), 0);
        Due.due("what was KEPT stays", x.undo(), true);
        Due.due("as it was KEPT", x.nodeIs(0, 8), 31);
        Due.due("found(0)", x.found(0), false);
        Due.due("found(128)", x.found(128), false);
        Due.due("found(-1)", x.found(-1), false);
        Due.due("found(1)", x.found(1), true);
        Due.due("found(127)", x.found(127), true);
        Due.due("found(127): CONFIG", x.nodeIs(6, 8), 127);
        // a TERM led before is as if it had no LEADER
        x = Due.settled(1);
        Due.law(x, "e4(f=1);e40(f=f)");
        x.found(2);
        x.ticks(20);
        Due.due("another LEADER of TERM 1", x.leaderNow(), 1);
        Due.due("nothing BROKEN", x.broken(0), 0);
    }

    private static void promise3Crash() {
        TermLog x = Due.settled(7);
        x.write(0, 1, 5);
        x.ticks(5);
        x.ask(0, 1);
        x.ask(0, 2);
        Due.due("crash", x.crash(0), true);
        Due.due("READ 0 is lost", x.readIs(0, 0), 2);
        Due.due("READ 1 is lost", x.readIs(1, 0), 2);
        int[] facts = {0, 1, 0, -2, 2, -2, 0, -2, 7, 0, -2, -2, -2, 1};
        for (int what = 0; what < 14; what++) {
            Due.due("crashed " + what, x.nodeIs(0, what), facts[what]);
        }
        Due.due("its ENTRY stays", x.entryAt(0, 2, 3), 5);
        Due.due("its KEYS", x.keyOf(0, 1), -2);
        Due.due("no LEADER NOW", x.leaderNow(), -2);
        Due.due("again", x.crash(0), false);
        Due.due("-1", x.crash(-1), false);
        Due.due("7", x.crash(7), false);
        // what comes to one DOWN is lost
        int before = x.count(8);
        int way = 0;
        for (int i = 0; i < x.count(2); i++) {
            if (x.message(i, 1) == 0) way++;
        }
        x.ticks(3);
        Due.due("lost", x.count(8) >= before + way, true);
        // of READS, those of others stay
        x = Due.settled(7);
        x.ask(0, 0);
        x.crash(1);
        Due.due("a READ of another", x.readIs(0, 0), 0);
        // an answered READ stays so
        x.ticks(3);
        x.crash(0);
        Due.due("an answered READ", x.readIs(0, 0), 1);
    }

    private static void promise4ComeUp() {
        TermLog x = Due.settled(7);
        x.write(0, 1, 5);
        x.ticks(5);
        x.compact(0);
        x.write(0, 1, 6);
        x.ticks(5);
        x.crash(0);
        int before = x.count(6);
        Due.due("come up", x.comeUp(0), true);
        Due.due("X", x.count(6), Due.xBehind(before, 1));
        int timer = 4 + Due.xBehind(before, 1) % 10;
        int[] facts = {1, 1, 0, 0, 3, 2, 2, timer, 7, 0, -2, 0, 0, 1};
        for (int what = 0; what < 14; what++) {
            Due.due("came up " + what, x.nodeIs(0, what), facts[what]);
        }
        Due.due("KEY", x.keyOf(0, 1), 5);
        Due.due("KEY of the SNAPSHOT", x.keyOf(0, 11), 5);
        Due.due("again", x.comeUp(0), false);
        Due.due("-1", x.comeUp(-1), false);
        Due.due("7", x.comeUp(7), false);
        Due.due("X stays", x.count(6), Due.xBehind(before, 1));
    }

    private static void promise5Cut() {
        TermLog x = Due.settled(7);
        Due.due("cut", x.cut(0, 1, true), true);
        Due.due("again", x.cut(1, 0, true), true);
        Due.due("one link", x.count(9), 1);
        Due.tickTill(x, y -> y.count(2) == 0);
        int before = x.count(8);
        x.write(0, 1, 1);
        Due.due("sent all the same", x.count(2), 2);
        x.ticks(1);
        Due.due("lost when due", x.count(8), before + 1);
        Due.due("LAST of 1", x.nodeIs(1, 4), 1);
        Due.due("LAST of 2", x.nodeIs(2, 4), 2);
        x.write(0, 1, 2);
        Due.due("join", x.cut(0, 1, false), true);
        x.ticks(1);
        Due.due("joined when due", x.count(8), before + 1);
        Due.due("no link", x.count(9), 0);
        for (int a = 0; a < 7; a++) {
            for (int b = 0; b < a; b++) x.cut(a, b, true);
        }
        Due.due("all links", x.count(9), 21);
        Due.due("itself", x.cut(3, 3, false), false);
        Due.due("7", x.cut(3, 7, false), false);
        Due.due("-1", x.cut(-1, 3, false), false);
        Due.due("all links stay", x.count(9), 21);
    }

    private static void promise6Compact() {
        TermLog x = Due.settled(7);
        x.write(0, 3, 33);
        x.ticks(2);
        x.write(0, 3, 44);
        Due.due("COMMIT", x.nodeIs(0, 5), 2);
        Due.due("compact", x.compact(0), true);
        Due.due("BASE", x.nodeIs(0, 6), 2);
        Due.due("LAST", x.nodeIs(0, 4), 3);
        Due.due("ENTRY at BASE", x.entryAt(0, 2, 0), -2);
        Due.due("ENTRY behind", x.entryAt(0, 3, 3), 44);
        Due.due("KEY", x.keyOf(0, 13), 33);
        Due.due("again", x.compact(0), false);
        Due.due("TERM of it", x.nodeIs(0, 13), 1);
        // the CONFIG as it was at COMMIT, not the later one
        x = Due.settled(7);
        x.write(0, 0, 1);
        x.ticks(2);
        x.change(0, 15);
        Due.due("compact below the CONFIG", x.compact(0), true);
        Due.due("joint", x.nodeIs(0, 9), 15);
        x.ticks(2);
        Due.due("HELD", x.nodeIs(0, 5), 3);
        Due.due("old ones", x.nodeIs(0, 8), 15);
        Due.due("compact a joint one", x.compact(0), true);
        x.ticks(6);
        x.compact(0);
        Due.due("old ones of BASE", x.nodeIs(0, 8), 15);
        Due.due("new ones of BASE", x.nodeIs(0, 9), 0);
        Due.due("a DOWN one", x.crash(1) && x.compact(1), false);
        Due.due("-1", x.compact(-1), false);
        Due.due("7", x.compact(7), false);
    }

    private static void promise7Write() {
        TermLog x = Due.ledByZero(7);
        Due.due("a write", x.write(0, 7, 99), 2);
        Due.due("MATCH of itself", x.about(0, 0, 1), 2);
        Due.due("sent", x.count(2), 4);
        Due.due("ENTRIES", x.message(2, 5), 2);
        int[] parts = {1, 0, 7, 99};
        for (int what = 0; what < 4; what++) {
            Due.due("ENTRY " + what, x.entryAt(0, 2, what), parts[what]);
        }
        Due.due("the least", x.write(0, 0, 0), 3);
        for (int i = 0; i < 4; i++) x.write(0, 1, i);
        Due.due("four ENTRIES at most", x.message(x.count(2) - 1, 5), 4);
        Due.due("not HELD yet", x.count(3), 0);
        x.ticks(2);
        // both have what came in one TICK: four by each of the MESSAGES, by which all are HELD
        Due.due("HELD by a MAJORITY", x.nodeIs(0, 5) >= 4, true);
        x.ticks(8);
        Due.due("HELD", x.count(3), 7);
        Due.due("KEY 1", x.keyOf(2, 1), 3);
        Due.due("a FOLLOWER", x.write(1, 0, 0), -2);
        x.crash(0);
        Due.due("DOWN", x.write(0, 0, 0), -2);
        Due.due("NODE 7", x.write(7, 0, 0), -1);
        Due.due("NODE -1", x.write(-1, 0, 0), -1);
        Due.due("KEY 8", x.write(0, 8, 0), -1);
        Due.due("KEY -1", x.write(0, -1, 0), -1);
        Due.due("value 100", x.write(0, 0, 100), -1);
        Due.due("value -1", x.write(0, 0, -1), -1);
        oldTermsAreNotHeld();
        unlikeEntriesGo();
    }

    /** An ENTRY of an older TERM is HELD only by way of one of the LEADER's own. */
    private static void oldTermsAreNotHeld() {
        TermLog x = Due.settled(7);
        x.crash(1);
        x.crash(2);
        for (int i = 1; i <= 6; i++) x.write(0, 4, i);
        x.crash(0);
        x.ticks(2);
        x.comeUp(0);
        x.comeUp(1);
        x.ticks(x.till(200, 0));
        Due.due("TERM", x.nodeIs(0, 1), 2);
        Due.due("own ENTRY", x.entryAt(0, 8, 0), 2);
        Due.tickTill(x, y -> y.about(0, 1, 1) != 0);
        Due.due("a MAJORITY has 5", x.about(0, 1, 1), 5);
        Due.due("of the older TERM", x.entryAt(0, 5, 0), 1);
        Due.due("not HELD", x.nodeIs(0, 5), 0);
        Due.tickTill(x, y -> y.about(0, 1, 1) != 5);
        Due.due("a MAJORITY has 8", x.about(0, 1, 1), 8);
        Due.due("all HELD by way of its own", x.nodeIs(0, 5), 8);
        Due.due("HELD at 7", x.heldAt(7, 0), 1);
        Due.due("HELD at 8", x.heldAt(8, 0), 2);
        Due.due("KEY", x.keyOf(0, 4), 6);
    }

    /** What a LEADER cut off has laid goes where another one's ENTRIES are HELD. */
    private static void unlikeEntriesGo() {
        TermLog x = Due.settled(7);
        x.ticks(3);
        x.cut(0, 1, true);
        x.cut(0, 2, true);
        for (int i = 1; i < 6; i++) x.write(0, 1, i);
        Due.law(x, "e4(f=1);e40(f=f)");
        x.crash(1);
        x.comeUp(1);
        x.ticks(20);
        Due.due("1 leads", x.leaderNow(), 1);
        Due.due("0 leads, too", x.nodeIs(0, 3), 2);
        x.write(1, 1, 77);
        x.ticks(6);
        Due.due("LAST of 0", x.nodeIs(0, 4), 6);
        Due.due("LAST of 1", x.nodeIs(1, 4), 3);
        x.ask(0, 1);
        x.cut(0, 1, false);
        x.ticks(10);
        Due.due("0 follows", x.nodeIs(0, 10), 1);
        Due.due("its READ is lost", x.readIs(0, 0), 2);
        Due.due("LAST of 0 then", x.nodeIs(0, 4), 3);
        Due.due("TERM at 2", x.entryAt(0, 2, 0), 2);
        Due.due("KEY of 0", x.keyOf(0, 1), 77);
        Due.due("broken", x.broken(0) + x.broken(1) + x.broken(2), 0);
    }

    private static void promise8Change() {
        TermLog x = Due.ledByZero(7);
        Due.due("the same ones, HELD by BASE", x.change(0, 7), -4);
        Due.due("to four", x.change(0, 15), 2);
        int[] parts = {1, 1, 7, 15};
        for (int what = 0; what < 4; what++) {
            Due.due("joint ENTRY " + what, x.entryAt(0, 2, what), parts[what]);
        }
        Due.due("while joint", x.change(0, 3), -4);
        Due.due("sent to a new one", x.message(x.count(2) - 1, 1), 3);
        Due.tickTill(x, y -> y.nodeIs(0, 9) == 0);
        Due.due("the last of it", x.entryAt(0, 3, 2), 15);
        Due.due("none new", x.entryAt(0, 3, 3), 0);
        Due.due("not HELD yet", x.change(0, 3), -4);
        x.ticks(8);
        Due.due("all have it", x.nodeIs(3, 8), 15);
        Due.due("the same ones", x.change(0, 15), -4);
        Due.due("a FOLLOWER", x.change(1, 3), -2);
        Due.due("DOWN", x.crash(6) ? x.change(6, 3) : 0, -2);
        Due.due("0", x.change(0, 0), -1);
        Due.due("128", x.change(0, 128), -1);
        Due.due("7", x.change(7, 3), -1);
        Due.due("-1", x.change(-1, 3), -1);
        Due.due("127", x.change(0, 127), 4);
        bothMajorities();
        leaderLeaves();
        jointTakenOver();
        Due.due("1 alone", Due.settled(7).change(0, 1), 2);
    }

    private static void bothMajorities() {
        // of the old ones 0, 1, 2 two are UP, of the new ones 0, 3, 4 only 0
        TermLog x = Due.settled(7);
        x.crash(2);
        x.crash(3);
        x.crash(4);
        x.change(0, 25);
        x.ticks(20);
        Due.due("no MAJORITY of the new ones", x.nodeIs(0, 9), 25);
        Due.due("COMMIT", x.nodeIs(0, 5), 1);
        x.comeUp(3);
        x.ticks(20);
        Due.due("both", x.nodeIs(0, 8), 25);
        Due.due("not joint", x.nodeIs(0, 9), 0);
        Due.due("COMMIT then", x.nodeIs(0, 5), 3);
        // of the new ones all are UP, of the old ones only 0
        x = Due.settled(7);
        x.crash(1);
        x.crash(2);
        x.change(0, 25);
        x.ticks(20);
        Due.due("no MAJORITY of the old ones", x.nodeIs(0, 9), 25);
        x.comeUp(1);
        x.ticks(20);
        Due.due("both again", x.nodeIs(0, 9), 0);
    }

    private static void leaderLeaves() {
        TermLog x = Due.settled(7);
        x.write(0, 1, 1);
        x.change(0, 6);
        x.ask(0, 1);
        Due.tickTill(x, y -> y.nodeIs(0, 3) != 2);
        Due.due("FOLLOWER", x.nodeIs(0, 3), 0);
        Due.due("LEADER KNOWN", x.nodeIs(0, 10), -2);
        Due.due("it HELD its going", x.nodeIs(0, 5), 4);
        Due.due("old ones", x.nodeIs(0, 8), 6);
        int term = x.nodeIs(0, 1);
        int way = x.count(2);
        x.crash(1);
        x.crash(2);
        x.ticks(120);
        Due.due("no MEMBER stands not", x.nodeIs(0, 1), term);
        Due.due("nothing is sent", x.count(2) <= way, true);
        Due.due("no MEMBER could win", x.couldWin(0, 0), -2);
    }

    /** A LEADER whose SNAPSHOT has a joint CONFIG lays the new one as soon as it LEADS. */
    private static void jointTakenOver() {
        TermLog x = Due.settled(7);
        x.cut(0, 3, true);
        x.change(0, 15);
        x.ticks(1);
        Due.law(x, "e40(f=f);x(k=2)");
        x.ticks(1);
        Due.due("the joint one is HELD", x.nodeIs(0, 5), 2);
        Due.due("COMPACT", x.compact(0), true);
        x.cut(0, 3, false);
        Due.tickTill(x, y -> y.nodeIs(3, 6) == 2);
        Due.due("joint by the SNAPSHOT", x.nodeIs(3, 9), 15);
        Due.due("the last one did not come", x.nodeIs(1, 4), 2);
        x.crash(0);
        Due.law(x, "e4(f=3);e40(f=f)");
        x.crash(3);
        x.comeUp(3);
        x.ticks(x.till(200, 0));
        Due.due("3 LEADS", x.leaderNow(), 3);
        Due.due("nothing, at first", x.entryAt(3, 3, 1), 2);
        Due.due("then a CONFIG", x.entryAt(3, 4, 1), 1);
        Due.due("of the new ones", x.entryAt(3, 4, 2), 15);
        Due.due("not joint", x.nodeIs(3, 9), 0);
        Due.due("sent to all, twice", x.count(2), 6);
        x.ticks(9);
        Due.due("HELD", x.nodeIs(3, 5), 4);
        Due.due("broken", x.broken(0) + x.broken(1) + x.broken(2), 0);
    }

    private static void promise9Ask() {
        TermLog x = Due.ledByZero(7);
        Due.due("too early", x.ask(0, 0), -4);
        x.ticks(6);
        x.write(0, 0, 10);
        int round = x.nodeIs(0, 12);
        Due.due("a READ", x.ask(0, 0), 0);
        Due.due("ROUND", x.nodeIs(0, 12), round + 1);
        Due.due("another", x.ask(0, 7), 1);
        Due.due("ROUND again", x.nodeIs(0, 12), round + 2);
        Due.due("open", x.readIs(0, 0), 0);
        x.ticks(1);
        Due.due("open yet", x.readIs(0, 0), 0);
        x.ticks(1);
        Due.due("answered", x.readIs(0, 0), 1);
        Due.due("by the KEY as it is", x.readIs(0, 1), 10);
        Due.due("answered, too", x.readIs(1, 0), 1);
        Due.due("a FOLLOWER", x.ask(1, 0), -2);
        Due.due("NODE 7", x.ask(7, 0), -1);
        Due.due("NODE -1", x.ask(-1, 0), -1);
        Due.due("KEY 8", x.ask(0, 8), -1);
        Due.due("KEY -1", x.ask(0, -1), -1);
        // HEART 0: the next ROUND is three TICKS away
        round = x.nodeIs(0, 12);
        x.ask(0, 0);
        x.ticks(2);
        Due.due("no ROUND in two TICKS", x.nodeIs(0, 12), round + 1);
        x.ticks(1);
        Due.due("a ROUND in the third", x.nodeIs(0, 12), round + 2);
        // without a MAJORITY it stays open, with one that heard a later ROUND it is answered
        x.crash(1);
        x.crash(2);
        x.ask(0, 0);
        x.ticks(9);
        Due.due("open without a MAJORITY", x.readIs(3, 0), 0);
        x.comeUp(1);
        x.ticks(6);
        Due.due("answered by a later ROUND", x.readIs(3, 0), 1);
        x.crash(0);
        Due.due("DOWN", x.ask(0, 0), -2);
    }

    private static void promise10Feed() {
        TermLog x = new TermLog();
        Due.due("feed", x.feed(0x01020304, 0x05060708, -1, 0, 0), 20);
        Due.due("feed again", x.feed(0, 0, 0, 0, 0), 40);
        // the highest byte first: told by the PLAN they are
        x = new TermLog();
        x.feed('.' << 24 | '2' << 16 | '.' << 8 | 'k', '5' << 24, 0, 0, 0);
        Due.due("the highest byte first", x.plan(5), 3 + 1);
        Due.due("crashed", x.nodeIs(5, 0), 0);
        x = new TermLog();
        x.feed(0x80818283, 0, 0, 0, 0);
        Due.due("a byte above 127", x.plan(1), -1000);
        x.feed(0x2E2E2E2E, 0x2E2E2E2E, 0x2E2E2E2E, 0x2E2E2E2E, 0x2E2E2E2E);
        Due.due("twenty", x.plan(20), 20);
    }

    private static void promise11Law() {
        TermLog x = new TermLog();
        Due.due("a LAW", Due.law(x, "d2(k=0);l3(t=1);e9(f=f);x(w>8)"), 4);
        Due.due("RULES", x.count(4), 4);
        Due.due("a FAULT", Due.law(x, "d2(k=0);l3"), -1010);
        Due.due("RULES stay", x.count(4), 4);
    }

    private static void promise12Plan() {
        TermLog x = new TermLog();
        Due.due("a PLAN", Due.plan(x, "3.k0u0u1x01"), 6);
        Due.due("a FAULT", Due.plan(x, "3.k9"), -1003);
        Due.due("THE TICK", x.count(0), 3);
    }

    private static void promise13Ticks() {
        TermLog x = new TermLog();
        Due.due("ticks(200)", x.ticks(200) >= 1, true);
        Due.due("THE TICK", x.count(0), 200);
        Due.due("ticks(1)", x.ticks(1), 0);
        Due.due("THE TICK", x.count(0), 201);
        Due.due("ticks(0)", x.ticks(0), -1);
        Due.due("ticks(201)", x.ticks(201), -1);
        Due.due("ticks(-1)", x.ticks(-1), -1);
        x = Due.settled(7);
        for (int i = 0; i < 3; i++) x.write(0, 0, 0);
        Due.due("HELD in one", x.ticks(1), 0);
        Due.due("HELD in two", x.ticks(1), 3);
        heartbeats();
        elections();
    }

    private static void heartbeats() {
        TermLog x = Due.ledByZero(127);
        int round = x.nodeIs(0, 12);
        Due.due("ROUND at first", round, 1);
        x.ticks(2);
        Due.due("HEART 3 where it stood", x.nodeIs(0, 12), 2);
        x.ticks(2);
        Due.due("none in two TICKS", x.nodeIs(0, 12), 2);
        x.ticks(1);
        Due.due("one in three", x.nodeIs(0, 12), 3);
        x.ticks(30);
        Due.due("ten in thirty", x.nodeIs(0, 12), 13);
        Due.due("HEARD of 6", x.about(0, 6, 2) >= 12, true);
        Due.due("6 follows", x.nodeIs(6, 10), 0);
        Due.due("TERM", x.nodeIs(6, 1), 1);
    }

    private static void elections() {
        // 0 stands: TERM, VOTE, TIMER; KIND 0 to each other MEMBER, by numbers
        TermLog x = new TermLog();
        Due.law(x, "e4(f=1);e40(f=f)");
        x.found(14);
        Due.tickTill(x, y -> y.nodeIs(1, 3) == 1);
        Due.due("TERM", x.nodeIs(1, 1), 1);
        Due.due("VOTE", x.nodeIs(1, 2), 1);
        Due.due("VOTES", x.nodeIs(1, 11), 2);
        Due.due("LEADER KNOWN", x.nodeIs(1, 10), -2);
        Due.due("calls", x.count(2), 2);
        Due.due("to 2", x.message(0, 1), 2);
        Due.due("to 3", x.message(1, 1), 3);
        Due.due("KIND 0", x.message(1, 2), 0);
        x.ticks(1);
        Due.due("2 voted", x.nodeIs(2, 2), 1);
        Due.due("2 has the TERM", x.nodeIs(2, 1), 1);
        Due.due("0 knows of nothing", x.nodeIs(0, 1), 0);
        Due.due("KIND 1", x.message(0, 2), 1);
        Due.due("its TERM", x.message(0, 3), 1);
        x.ticks(1);
        Due.due("it LEADS", x.nodeIs(1, 3), 2);
        Due.due("by two VOTES and a third", x.nodeIs(1, 11) & 6, 6);
        Due.due("HEART and ROUND", x.nodeIs(1, 12), 1);
        // one whose LOG is behind gets no VOTE
        x = Due.settled(7);
        x.cut(0, 2, true);
        x.write(0, 0, 1);
        x.ticks(4);
        x.crash(0);
        Due.law(x, "e4(f=2);e40(f=f)");
        x.crash(2);
        x.comeUp(2);
        x.ticks(30);
        Due.due("2 stood", x.nodeIs(2, 1) > 1, true);
        Due.due("2 leads not", x.leaderNow(), -2);
        Due.due("1 took its TERM", x.nodeIs(1, 1) >= x.nodeIs(2, 1) - 1, true);
        Due.due("1 has no VOTE", x.nodeIs(1, 2), -2);
        // one of the same TERM votes once
        x = new TermLog();
        Due.law(x, "e4(f<2);e40(f=f);x(k=0&f+t=1)");
        x.seed(0);
        x.found(15);
        x.ticks(60);
        Due.due("some LEADER at last", x.leaderNow() >= 0, true);
        Due.due("nothing BROKEN", x.broken(0), 0);
    }

    private static void promise14Tried() {
        TermLog x = new TermLog();
        Due.due("no LEADER yet", x.tried(11, 1), -2);
        Due.due("a LEADER", x.tried(12, 1), 0);
        Due.due("HELD", x.tried(14, 0), 1);
        Due.due("on their way", x.tried(12, 2), 2);
        Due.due("BROKEN", x.tried(200, 3), 0);
        Due.due("COMMIT", x.tried(14, 10), 1);
        Due.due("TERM", x.tried(14, 21), 1);
        Due.due("ROLE", x.tried(14, 30), 2);
        Due.due("ROLE of 6", x.tried(14, 36), 0);
        Due.due("nothing is changed", x.count(0), 0);
        Due.due("nor X", x.count(6), 65216);
        for (int what : new int[] {-1, 4, 9, 17, 18, 19, 27, 29, 37, 40, 100}) {
            Due.due("what " + what, x.tried(1, what), -1);
        }
        Due.due("0 TICKS", x.tried(0, 0), -1);
        Due.due("201 TICKS", x.tried(201, 0), -1);
        x = Due.settled(7);
        x.write(0, 1, 1);
        x.ticks(4);
        x.crash(0);
        Due.due("COMMIT as it was", x.tried(1, 10), 2);
        Due.due("ROLE of one DOWN", x.tried(1, 30), 0);
        Due.due("TERM of one DOWN", x.tried(1, 20), 1);
        Due.due("COMMIT asked now", x.nodeIs(0, 5), -2);
        // what comes is what was tried
        TermLog y = new TermLog();
        for (int n = 1; n < 60; n += 7) {
            int leader = y.tried(n, 1);
            int way = y.tried(n, 2);
            int held = y.tried(n, 0);
            Due.due("HELD as tried", y.ticks(n), held);
            Due.due("LEADER as tried", y.leaderNow(), leader);
            Due.due("on their way as tried", y.count(2), way);
        }
    }

    private static void promise15NodeIs() {
        TermLog x = Due.settled(7);
        int[] leader = {1, 1, 0, 2, 1, 1, 0, -9, 7, 0, 0, -9, -9, 1};
        for (int what = 0; what < 14; what++) {
            if (leader[what] != -9) Due.due("LEADER " + what, x.nodeIs(0, what), leader[what]);
        }
        Due.due("LEADER's VOTES", x.nodeIs(0, 11) >= 3, true);
        Due.due("LEADER's ROUND", x.nodeIs(0, 12) > 1, true);
        int round = x.nodeIs(0, 12);
        int[] follower = {1, 1, 0, 0, 1, 1, 0, -9, 7, 0, 0, 0, 0, 1};
        for (int what = 0; what < 14; what++) {
            if (follower[what] != -9) Due.due("FOLLOWER " + what, x.nodeIs(1, what), follower[what]);
        }
        Due.due("14", x.nodeIs(0, 14), -1);
        Due.due("-1", x.nodeIs(0, -1), -1);
        Due.due("NODE 7", x.nodeIs(7, 0), -1);
        Due.due("NODE -1", x.nodeIs(-1, 0), -1);
        x.crash(2);
        Due.due("14 of one DOWN", x.nodeIs(2, 14), -1);
        // VOTES and ROUND as they were last
        int votes = x.nodeIs(0, 11);
        x.cut(0, 1, true);
        x.cut(0, 2, true);
        x.comeUp(2);
        Due.law(x, "e4(f=1);e40(f=f)");
        x.crash(1);
        x.comeUp(1);
        x.ticks(20);
        x.cut(0, 1, false);
        x.ticks(4);
        Due.due("FOLLOWER now", x.nodeIs(0, 3), 0);
        Due.due("VOTES stay", x.nodeIs(0, 11), votes);
        Due.due("ROUND stays", x.nodeIs(0, 12) > round, true);
    }

    private static void promise16EntryAt() {
        TermLog x = Due.settled(7);
        x.write(0, 6, 66);
        x.change(0, 23);
        int[][] all = {{1, 2, 0, 0}, {1, 0, 6, 66}, {1, 1, 7, 23}};
        for (int i = 0; i < 3; i++) {
            for (int what = 0; what < 4; what++) {
                Due.due("ENTRY", x.entryAt(0, i + 1, what), all[i][what]);
            }
        }
        Due.due("behind LAST", x.entryAt(0, 4, 0), -2);
        Due.due("999", x.entryAt(0, 999, 3), -2);
        Due.due("1000", x.entryAt(0, 1000, 0), -1);
        Due.due("0", x.entryAt(0, 0, 0), -1);
        Due.due("what 4", x.entryAt(0, 1, 4), -1);
        Due.due("what -1", x.entryAt(0, 1, -1), -1);
        Due.due("NODE 7", x.entryAt(7, 1, 0), -1);
        Due.due("NODE -1", x.entryAt(-1, 1, 0), -1);
        x.crash(0);
        Due.due("of one DOWN", x.entryAt(0, 2, 3), 66);
    }

    private static void promise17KeyOf() {
        TermLog x = Due.settled(7);
        for (int key = 0; key < 8; key++) x.write(0, key, 10 * key + 9);
        x.ticks(9);
        x.compact(1);
        x.write(0, 7, 1);
        x.ticks(6);
        Due.due("KEY 0", x.keyOf(1, 0), 9);
        Due.due("KEY 7", x.keyOf(1, 7), 1);
        Due.due("KEY 7 of the SNAPSHOT", x.keyOf(1, 17), 79);
        Due.due("KEY 0 of the SNAPSHOT", x.keyOf(1, 10), 9);
        for (int key : new int[] {-1, 8, 9, 18, 99, Integer.MIN_VALUE, Integer.MAX_VALUE}) {
            Due.due("KEY " + key, x.keyOf(1, key), -1);
        }
        Due.due("NODE 7", x.keyOf(7, 0), -1);
        Due.due("NODE -1", x.keyOf(-1, 10), -1);
        x.crash(1);
        Due.due("DOWN", x.keyOf(1, 7), -2);
        Due.due("DOWN, of the SNAPSHOT", x.keyOf(1, 17), 79);
        Due.due("DOWN, KEY 8", x.keyOf(1, 8), -1);
    }

    private static void promise18About() {
        TermLog x = Due.ledByZero(7);
        Due.due("NEXT", x.about(0, 1, 0), 1);
        Due.due("NEXT of itself", x.about(0, 0, 0), 1);
        Due.due("MATCH", x.about(0, 1, 1), 0);
        Due.due("MATCH of itself", x.about(0, 0, 1), 1);
        Due.due("HEARD", x.about(0, 1, 2), 0);
        x.ticks(2);
        Due.due("NEXT then", x.about(0, 1, 0), 2);
        Due.due("MATCH then", x.about(0, 1, 1), 1);
        Due.due("HEARD then", x.about(0, 1, 2), 1);
        Due.due("HEARD of itself", x.about(0, 0, 2), 0);
        Due.due("of no MEMBER", x.about(0, 6, 0), 1);
        Due.due("a FOLLOWER", x.about(1, 0, 0), -2);
        Due.due("what 3", x.about(0, 1, 3), -1);
        Due.due("what -1", x.about(0, 1, -1), -1);
        Due.due("NODE 7", x.about(0, 7, 0), -1);
        Due.due("LEADER 7", x.about(7, 0, 0), -1);
        Due.due("a FOLLOWER, what 3", x.about(1, 0, 3), -1);
        x.crash(0);
        Due.due("DOWN", x.about(0, 1, 0), -2);
        hints();
        snapshots();
        snapshotsAmongEntries();
    }

    /** Where LOGS part: what is told back is what NEXT becomes, MATCH + 1 at least. */
    private static void hints() {
        TermLog x = Due.settled(7);
        x.ticks(3);
        x.crash(1);
        for (int i = 0; i < 6; i++) x.write(0, 0, i);
        x.ticks(6);
        Due.law(x, "e4(f=0);e40(f=f)");
        x.crash(0);
        x.comeUp(0);
        x.comeUp(1);
        x.ticks(x.till(200, 0));
        Due.due("NEXT at first", x.about(0, 1, 0), 8);
        x.ticks(2);
        Due.due("NEXT behind a hint", x.about(0, 1, 0), 2);
        Due.due("MATCH behind a hint", x.about(0, 1, 1), 0);
        int sent = 0;
        for (int i = 0; i < x.count(2); i++) {
            if (x.message(i, 1) == 1 && x.message(i, 5) == 4) sent++;
        }
        Due.due("sent by the hint, and by the HEART", sent, 2);
        x.ticks(2);
        Due.due("NEXT behind four", x.about(0, 1, 0), 6);
        x.ticks(2);
        Due.due("NEXT behind all", x.about(0, 1, 0), 9);
    }

    private static void snapshots() {
        TermLog x = Due.settled(7);
        x.ticks(3);
        x.crash(1);
        x.write(0, 3, 30);
        x.ticks(6);
        x.compact(0);
        Due.due("NEXT of 1", x.about(0, 1, 0), 2);
        x.comeUp(1);
        Due.tickTill(x, y -> y.message(0, 1) == 1 && y.message(0, 2) == 4);
        Due.due("KIND 4 has no ENTRIES", x.message(0, 5), 0);
        int held = x.count(3);
        x.ticks(1);
        Due.due("BASE of 1", x.nodeIs(1, 6), 2);
        Due.due("LAST of 1", x.nodeIs(1, 4), 2);
        Due.due("COMMIT of 1", x.nodeIs(1, 5), 2);
        Due.due("KEY of 1", x.keyOf(1, 3), 30);
        Due.due("KEY of its SNAPSHOT", x.keyOf(1, 13), 30);
        Due.due("TERM of LAST", x.nodeIs(1, 13), 1);
        Due.due("nothing SEEN HELD", x.count(3), held);
        x.ticks(1);
        Due.due("MATCH of 1", x.about(0, 1, 1), 2);
        Due.due("NEXT of 1 then", x.about(0, 1, 0), 3);
    }

    /** Of a SNAPSHOT that comes, what a NODE has behind its INDEX stays if it has that one. */
    private static void snapshotsAmongEntries() {
        TermLog x = Due.settled(7);
        Due.tickTill(x, y -> y.count(2) == 0);
        Due.law(x, "e40(f=f);x(f=1&k=3)");
        x.write(0, 0, 2);
        x.write(0, 0, 3);
        Due.law(x, "e40(f=f);x(f=1&k=3);x(t=2)");
        x.write(0, 0, 4);
        x.write(0, 0, 5);
        x.ticks(2);
        Due.due("1 has four more", x.nodeIs(1, 4), 5);
        Due.due("1 knows of none HELD", x.nodeIs(1, 5), 1);
        Due.due("0 knows of two", x.nodeIs(0, 5), 3);
        Due.due("0 knows not of 1", x.about(0, 1, 0), 2);
        x.compact(0);
        Due.tickTill(x, y -> y.nodeIs(1, 6) == 3);
        Due.due("what is behind it stays", x.nodeIs(1, 4), 5);
        Due.due("an ENTRY behind it", x.entryAt(1, 4, 3), 4);
        Due.due("the ENTRY at it goes", x.entryAt(1, 3, 0), -2);
        Due.due("COMMIT", x.nodeIs(1, 5), 3);
        Due.due("KEY", x.keyOf(1, 0), 3);
        // one with another TERM there: all go
        x = Due.settled(7);
        Due.tickTill(x, y -> y.count(2) == 0);
        x.cut(0, 1, true);
        x.cut(0, 2, true);
        for (int i = 2; i < 8; i++) x.write(0, 0, i);
        Due.law(x, "e4(f=1);e40(f=f)");
        x.crash(1);
        x.comeUp(1);
        Due.tickTill(x, y -> y.leaderNow() == 1);
        x.write(1, 1, 11);
        Due.tickTill(x, y -> y.nodeIs(1, 5) == 3);
        x.compact(1);
        Due.due("LAST of 0", x.nodeIs(0, 4), 7);
        x.ticks(1);
        x.cut(0, 1, false);
        Due.tickTill(x, y -> y.nodeIs(0, 6) == 3);
        Due.due("all go", x.nodeIs(0, 4), 3);
        Due.due("TERM of LAST", x.nodeIs(0, 13), 2);
        Due.due("KEY 0", x.keyOf(0, 0), 0);
        Due.due("KEY 1", x.keyOf(0, 1), 11);
    }

    private static void promise19Message() {
        TermLog x = Due.ledByZero(7);
        int tick = x.count(0);
        int[][] all = {{0, 1, 2, 1, tick + 1, 1}, {0, 2, 2, 1, tick + 1, 1}};
        for (int i = 0; i < 2; i++) {
            for (int what = 0; what < 6; what++) {
                Due.due("MESSAGE " + i, x.message(i, what), all[i][what]);
            }
        }
        Due.due("2", x.message(2, 0), -4);
        Due.due("160", x.message(160, 5), -4);
        Due.due("-1", x.message(-1, 0), -1);
        Due.due("what 6", x.message(0, 6), -1);
        Due.due("what -1", x.message(0, -1), -1);
        Due.due("2, what 6", x.message(2, 6), -1);
        // in the order SENT, whenever they are due
        Due.law(x, "d5(t=1)");
        x.write(0, 0, 0);
        Due.law(x, "d0(t=1)");
        x.write(0, 0, 1);
        Due.due("sent late", x.message(2, 4), tick + 6);
        Due.due("behind it", x.message(4, 4), tick + 1);
        x.ticks(1);
        Due.due("late, first now", x.message(0, 4), tick + 6);
        Due.due("the answer behind it", x.message(1, 2), 3);
        x.ticks(4);
        Due.due("late yet", x.message(0, 4), tick + 6);
        x.ticks(1);
        Due.due("handed over", x.message(0, 4) != tick + 6, true);
    }

    private static void promise20LeaderNow() {
        TermLog x = new TermLog();
        Due.due("none", x.leaderNow(), -2);
        x = Due.settled(31);
        Due.due("0", x.leaderNow(), 0);
        for (int n = 1; n < 5; n++) x.cut(0, n, true);
        Due.law(x, "e4(f=3);e40(f=f)");
        x.crash(3);
        x.comeUp(3);
        x.ticks(20);
        Due.due("0 leads yet", x.nodeIs(0, 3), 2);
        Due.due("3 of a greater TERM", x.leaderNow(), 3);
        x.crash(3);
        Due.due("0 again", x.leaderNow(), 0);
        x.crash(0);
        Due.due("none again", x.leaderNow(), -2);
    }

    private static void promise21HeldAt() {
        TermLog x = Due.ledByZero(7);
        Due.due("nothing yet", x.heldAt(1, 0), -2);
        x.ticks(6);
        x.write(0, 4, 40);
        x.change(0, 3);
        x.ticks(9);
        int[][] all = {{1, 2, 0, 0}, {1, 0, 4, 40}, {1, 1, 7, 3}, {1, 1, 3, 0}};
        for (int i = 0; i < 4; i++) {
            for (int what = 0; what < 4; what++) {
                Due.due("HELD", x.heldAt(i + 1, what), all[i][what]);
            }
        }
        Due.due("5", x.heldAt(5, 0), -2);
        Due.due("9999", x.heldAt(9999, 0), -2);
        Due.due("10000", x.heldAt(10000, 0), -1);
        Due.due("0", x.heldAt(0, 0), -1);
        Due.due("what 4", x.heldAt(1, 4), -1);
        Due.due("what -1", x.heldAt(1, -1), -1);
        x.compact(0);
        for (int n = 0; n < 7; n++) x.crash(n);
        Due.due("HELD whoever has it", x.heldAt(2, 3), 40);
    }

    private static void promise22ReadIs() {
        TermLog x = Due.settled(7);
        x.write(0, 5, 55);
        x.ask(0, 5);
        int[] open = {0, -2, 0, 5};
        for (int what = 0; what < 4; what++) Due.due("open", x.readIs(0, what), open[what]);
        x.ticks(2);
        int[] answered = {1, 55, 0, 5};
        for (int what = 0; what < 4; what++) Due.due("answered", x.readIs(0, what), answered[what]);
        x.ask(0, 6);
        x.crash(0);
        int[] lost = {2, -2, 0, 6};
        for (int what = 0; what < 4; what++) Due.due("lost", x.readIs(1, what), lost[what]);
        Due.due("2", x.readIs(2, 0), -1);
        Due.due("-1", x.readIs(-1, 0), -1);
        Due.due("what 4", x.readIs(0, 4), -1);
        Due.due("what -1", x.readIs(0, -1), -1);
    }

    private static void promise23Broken() {
        TermLog x = Due.settled(127);
        for (int what = 0; what < 3; what++) Due.due("broken", x.broken(what), 0);
        Due.due("3", x.broken(3), -1);
        Due.due("-1", x.broken(-1), -1);
        Due.due("MAX", x.broken(Integer.MAX_VALUE), -1);
        // unlike ENTRIES of unlike TERMS at the same INDEX are MATCHED all the same
        x.crash(1);
        for (int n = 1; n < 7; n++) x.cut(0, n, true);
        x.write(0, 0, 1);
        Due.law(x, "e4(f=2);e40(f=f)");
        x.crash(2);
        x.comeUp(2);
        x.ticks(30);
        Due.due("unlike", x.entryAt(0, 2, 0) != x.entryAt(2, 2, 0), true);
        for (int what = 0; what < 3; what++) Due.due("not broken", x.broken(what), 0);
    }

    private static void promise24CouldWin() {
        TermLog x = Due.settled(31);
        Due.due("0", x.couldWin(0, 1), 31);
        Due.due("all grant", x.couldWin(1, 1), 31);
        x.cut(1, 2, true);
        x.crash(3);
        Due.due("cut, DOWN", x.couldWin(1, 1), 19);
        Due.due("three of five", x.couldWin(1, 0), 1);
        x.cut(1, 4, true);
        Due.due("two of five", x.couldWin(1, 0), 0);
        Due.due("who", x.couldWin(1, 1), 3);
        Due.due("no MEMBER", x.couldWin(5, 0), -2);
        Due.due("no MEMBER, who", x.couldWin(5, 1), -2);
        Due.due("DOWN", x.couldWin(3, 0), -2);
        Due.due("what 2", x.couldWin(0, 2), -1);
        Due.due("what -1", x.couldWin(0, -1), -1);
        Due.due("NODE 7", x.couldWin(7, 0), -1);
        Due.due("DOWN, what 2", x.couldWin(3, 2), -1);
        // LOGS behind and ahead
        x = Due.settled(7);
        x.cut(0, 2, true);
        x.write(0, 0, 0);
        x.ticks(2);
        Due.due("of 2 nobody is behind", x.couldWin(2, 1), 4);
        Due.due("of 1 all are", x.couldWin(1, 1), 7);
        Due.due("of 0, but for the link", x.couldWin(0, 1), 3);
        // a TERM above, the same TERM with a VOTE given, a lower one with a VOTE
        x = Due.settled(7);
        x.ticks(6);
        x.cut(2, 0, true);
        x.cut(2, 1, true);
        Due.law(x, "e4(f=2);e40(f=f)");
        x.crash(2);
        x.comeUp(2);
        Due.tickTill(x, y -> y.nodeIs(2, 1) >= 2);
        x.cut(2, 0, false);
        x.cut(2, 1, false);
        Due.due("2 has VOTE in TERM 2", x.couldWin(1, 1), 3);
        Due.due("2 in TERM 3", x.couldWin(2, 1), 7);
        x.cut(2, 0, true);
        x.cut(2, 1, true);
        Due.tickTill(x, y -> y.nodeIs(2, 1) >= 3);
        x.cut(2, 0, false);
        x.cut(2, 1, false);
        Due.due("2 is above TERM 2", x.couldWin(0, 1), 3);
        // a joint CONFIG
        x = Due.settled(7);
        x.change(0, 56);
        Due.due("old and new ones", x.couldWin(0, 1), 63);
        x.crash(3);
        x.crash(4);
        Due.due("not of the new ones", x.couldWin(0, 0), 0);
    }

    private static void promise25Majority() {
        TermLog x = new TermLog();
        x.found(31);
        Due.due("three of five", x.majority(0, 7), 1);
        Due.due("two of five", x.majority(0, 3), 0);
        Due.due("two and others", x.majority(0, 99), 0);
        Due.due("none", x.majority(0, 0), 0);
        Due.due("all", x.majority(6, 127), 1);
        x.found(15);
        Due.due("two of four", x.majority(0, 3), 0);
        Due.due("three of four", x.majority(0, 11), 1);
        Due.due("128", x.majority(0, 128), -1);
        Due.due("-1", x.majority(0, -1), -1);
        Due.due("NODE 7", x.majority(7, 1), -1);
        Due.due("NODE -1", x.majority(-1, 1), -1);
        x = Due.settled(7);
        x.change(0, 56);
        Due.due("old ones alone", x.majority(0, 7), 0);
        Due.due("new ones alone", x.majority(0, 56), 0);
        Due.due("two of each", x.majority(0, 27), 1);
        Due.due("of 1, that does not know", x.majority(1, 7), 1);
        x.crash(1);
        Due.due("of one DOWN", x.majority(1, 7), 1);
    }

    private static void promise26Till() {
        TermLog x = new TermLog();
        Due.due("a LEADER", x.till(200, 0), 12);
        Due.due("a LEADER in twelve", x.till(12, 0), 12);
        Due.due("none in eleven", x.till(11, 0), -2);
        Due.due("HELD", x.till(200, 1), 14);
        Due.due("all have nothing", x.till(1, 2), 0);
        Due.due("nothing is changed", x.count(0), 0);
        x.ticks(12);
        Due.due("a LEADER now", x.till(1, 0), 0);
        Due.due("an INDEX more", x.till(2, 1), 2);
        Due.due("none in one", x.till(1, 1), -2);
        x.ticks(2);
        Due.due("no INDEX more", x.till(200, 1), -2);
        Due.due("no MEMBERS never have it", x.till(200, 2), -2);
        x = Due.settled(7);
        for (int n = 3; n < 7; n++) x.crash(n);
        Due.due("all have it", x.till(20, 2), 0);
        x.write(0, 0, 0);
        Due.due("all have what is HELD", x.till(20, 2), 0);
        x.ticks(2);
        Due.due("1 knows not yet", x.nodeIs(1, 5), 1);
        int till = x.till(20, 2);
        Due.due("in some TICKS", till > 0, true);
        x.ticks(till - 1);
        Due.due("not before", Math.min(x.nodeIs(1, 5), x.nodeIs(2, 5)), 1);
        x.ticks(1);
        Due.due("then", Math.min(x.nodeIs(1, 5), x.nodeIs(2, 5)), 2);
        x.write(0, 0, 0);
        x.ticks(2);
        Due.due("1 and 2 know not yet", x.till(1, 2) != 0, true);
        x.crash(1);
        x.crash(2);
        Due.due("of UP ones alone", x.till(1, 2), 0);
        x.crash(0);
        Due.due("none is UP", x.till(1, 2), 0);
        Due.due("no LEADER ever", x.till(200, 0), -2);
        Due.due("what 3", x.till(1, 3), -1);
        Due.due("what -1", x.till(1, -1), -1);
        Due.due("0 TICKS", x.till(0, 0), -1);
        Due.due("201 TICKS", x.till(201, 0), -1);
    }

    private static void promise27Seed() {
        TermLog x = new TermLog();
        Due.due("0", x.seed(0), true);
        Due.due("X", x.count(6), 0);
        x.crash(0);
        x.comeUp(0);
        Due.due("X behind a DRAW", x.count(6), 13849);
        Due.due("TIMER", x.nodeIs(0, 7), 8 + 9);
        Due.due("65535", x.seed(65535), true);
        Due.due("X", x.count(6), 65535);
        x.found(7);
        Due.due("seven DRAWS", x.count(6), Due.xBehind(65535, 7));
        Due.due("65536", x.seed(65536), false);
        Due.due("-1", x.seed(-1), false);
        Due.due("X stays", x.count(6), Due.xBehind(65535, 7));
    }

    private static void promise28And29KeepUndo() {
        TermLog x = Due.settled(31);
        Due.due("none KEPT", x.undo(), false);
        x.crash(4);
        x.cut(0, 3, true);
        x.write(0, 1, 11);
        x.ask(0, 1);
        x.feed(0, 0, 0, 0, 0);
        Due.due("keep", x.keep(), x.count(0));
        String seen = Due.seen(x);
        x = Due.settled(31);
        x.crash(4);
        x.cut(0, 3, true);
        x.write(0, 1, 11);
        x.ask(0, 1);
        x.keep();
        x.ticks(20);
        x.write(0, 1, 12);
        x.change(0, 7);
        x.ticks(20);
        x.compact(0);
        x.comeUp(4);
        x.cut(0, 3, false);
        x.crash(1);
        x.seed(77);
        x.feed(0, 0, 0, 0, 0);
        Due.due("undo", x.undo(), true);
        Due.due("as it was KEPT", Due.seen(x), seen);
        x = Due.settled(7);
        int kept = x.keep();
        x.ticks(5);
        x.found(127);
        Due.due("undo behind found", x.undo(), true);
        Due.due("THE TICK", x.count(0), kept);
        x.ticks(5);
        Due.due("undo again", x.undo(), true);
        Due.due("THE TICK again", x.count(0), kept);
        keptReads();
        x.ticks(5);
        Due.due("keep again", x.keep(), kept + 5);
        x.ticks(5);
        x.undo();
        Due.due("as it was KEPT last", x.count(0), kept + 5);
    }

    private static void keptReads() {
        TermLog x = Due.settled(7);
        x.write(0, 5, 50);
        x.write(0, 6, 60);
        x.ticks(3);
        x.ask(0, 5);
        x.ticks(2);
        x.ask(0, 6);
        x.keep();
        x.found(1);
        Due.tickTill(x, y -> y.leaderNow() == 0);
        x.ask(0, 1);
        x.ask(0, 2);
        Due.due("another READ", x.readIs(0, 3), 1);
        x.undo();
        int[][] all = {{1, 50, 0, 5}, {0, -2, 0, 6}};
        for (int i = 0; i < 2; i++) {
            for (int what = 0; what < 4; what++) {
                Due.due("a KEPT READ", x.readIs(i, what), all[i][what]);
            }
        }
        x.ticks(1);
        Due.due("open by its ROUND", x.readIs(1, 0), 0);
        x.ticks(1);
        Due.due("answered by its KEY", x.readIs(1, 1), 60);
    }

    private static void promise30Check() {
        TermLog x = Due.settled(7);
        for (int key = 0; key < 8; key++) x.write(0, key, 10 + key);
        Due.tickTill(x, y -> y.nodeIs(0, 5) >= 9);
        check(x, 8, -1, 10, 11, 12, 13, 14, 15, 16, 17);
        check(x, 8, 7, 10, 11, 12, 13, 14, 15, 16, 18);
        check(x, 8, 2, 10, 11, 0, 13, 0, 15, 16, 17);
        check(x, 2, -1, 10, 11, 0, 0, 0, 0, 0, 0);
        check(x, 1, 0, 11, 11, 0, 0, 0, 0, 0, 0);
        check(x, 0, -1, 0, 0, 0, 0, 0, 0, 0, 0);
        Due.due("1 byte of none", x.check(1), -2);
        Due.due("0 bytes of none", x.check(0), -1);
        x.feed(0, 0, 0, 0, 0);
        Due.due("9", x.check(9), -2);
        Due.due("-1", x.check(-1), -2);
        Due.due("the tape stays", x.count(5), 20);
        x.check(0);
        // of like COMMITS any has the same; of the UP ones the greatest
        x.ticks(9);
        x.crash(1);
        x.crash(2);
        x.write(0, 0, 99);
        check(x, 1, -1, 10, 0, 0, 0, 0, 0, 0, 0);
        x.crash(0);
        check(x, 1, -1, 0, 0, 0, 0, 0, 0, 0, 0);
        for (int n = 3; n < 7; n++) x.crash(n);
        check(x, 1, 0, 10, 0, 0, 0, 0, 0, 0, 0);
        check(x, 8, -1, 255, 255, 255, 255, 255, 255, 255, 255);
        check(x, 8, 6, 255, 255, 255, 255, 255, 255, 254, 255);
    }

    private static void check(TermLog x, int n, int want, int... keys) {
        int a = keys[0] << 24 | keys[1] << 16 | keys[2] << 8 | keys[3];
        int b = keys[4] << 24 | keys[5] << 16 | keys[6] << 8 | keys[7];
        x.feed(a, b, 0, 0, 0);
        Due.due("check(" + n + ")", x.check(n), want);
        Due.due("check(" + n + "): the tape", x.count(5), 0);
    }

    private static void promise31Count() {
        TermLog x = Due.settled(31);
        x.write(0, 0, 0);
        x.ask(0, 0);
        x.crash(6);
        x.cut(1, 2, true);
        x.cut(5, 6, true);
        x.feed(1, 1, 1, 1, 1);
        int[] all = {x.count(0), 63, x.count(2), 1, 2, 20, x.count(6), 1, 0, 2};
        for (int what = 0; what < 10; what++) Due.due("count", x.count(what), all[what]);
        for (int what : new int[] {-1, 10, 11, Integer.MAX_VALUE, Integer.MIN_VALUE}) {
            Due.due("count " + what, x.count(what), -1);
        }
        int lost = x.count(8);
        x.crash(1);
        x.ticks(1);
        Due.due("lost MESSAGES", x.count(8) >= lost + 2, true);
        x.ticks(5);
        Due.due("HELD", x.count(3), 2);
    }
}
