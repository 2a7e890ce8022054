/** 'Promise 1' to 'Promise 31', sentence by sentence; what 'Terms' says is held elsewhere. */
public final class PromiseTest {
    private static final int MAX = Integer.MAX_VALUE;
    private static final int MIN = Integer.MIN_VALUE;
    private static final int[] NO_NODES = {-1, 7, 8, 127, MAX, MIN};
    private static final int[] NO_COUNTS = {0, -1, 201, 202, MAX, MIN};

    private PromiseTest() {}

    public static void main(String[] args) {
        promise1NewObject();
        promise2Found();
        promise3Crash();
        promise4ComeUp();
        promise5Cut();
        promise6Compact();
        promise7Write();
        promise8Change();
        promise9Ask();
        promise10Feed();
        promise11Law();
        promise12Plan();
        promise13Ticks();
        promise14Tried();
        promise15NodeIs();
        promise16EntryAt();
        promise17KeyOf();
        promise18About();
        promise19Message();
        promise20LeaderNow();
        promise21HeldAt();
        promise22ReadIs();
        promise23Broken();
        promise24CouldWin();
        promise25Majority();
        promise26Till();
        promise27Seed();
        promise28And29KeepUndo();
        promise30Check();
        promise31Count();
        Due.end("PromiseTest");
    }

    private static void promise1NewObject() {
        Due.says(1, "`TermLog()`: FOUNDED by 0, 1, 2; no LAW; THE SEED 1.");
        TermLog x = new TermLog();
        int[] counts = {0, 127, 0, 0, 0, 0, Due.xBehind(1, 7), 0, 0, 0};
        for (int what = 0; what < 10; what++) Due.due("count", x.count(what), counts[what]);
        for (int n = 0; n < 7; n++) {
            int[] facts = {1, 0, -2, 0, 0, 0, 0, 8 + Due.xBehind(1, n + 1) % 10, 7, 0, -2, 0, 0, 0};
            for (int what = 0; what < 14; what++) {
                Due.due("nodeIs " + n + " " + what, x.nodeIs(n, what), facts[what]);
            }
            for (int key = 0; key < 8; key++) {
                Due.due("keyOf", x.keyOf(n, key) + x.keyOf(n, 10 + key), 0);
            }
        }
        Due.due("none was KEPT", x.undo(), false);
    }

    private static void promise2Found() {
        Due.says(2, "`boolean found(int some)`: FOUNDED anew (bits 1 to 127): true; false: no such ones.");
        for (int some = -2; some <= 130; some++) {
            TermLog x = Due.settled(7);
            boolean is = some >= 1 && some <= 127;
            Due.due("found(" + some + ")", x.found(some), is);
            Due.due("THE TICK", x.count(0) == 0, is);
            Due.due("old ones", x.nodeIs(6, 8), is ? some : 7);
        }
        for (int some : new int[] {255, 256 + 7, MAX, MIN, MIN + 7}) {
            Due.due("found(" + some + ")", new TermLog().found(some), false);
        }
    }

    private static void promise3Crash() {
        Due.says(3, "`boolean crash(int node)`: A NODE that is UP crashes: DOWN, what is not kept goes (its"
                + " READS are lost): true;");
        TermLog x = Due.settled(7);
        x.write(0, 1, 5);
        x.ticks(5);
        x.ask(0, 1);
        x.ask(0, 2);
        Due.due("crash", x.crash(0), true);
        Due.due("READ 0 is lost", x.readIs(0, 0), 2);
        Due.due("READ 1 is lost", x.readIs(1, 0), 2);
        int[] facts = {0, 1, 0, -2, 2, -2, 0, -2, 7, 0, -2, -2, -2, 1};
        for (int what = 0; what < 14; what++) {
            Due.due("crashed " + what, x.nodeIs(0, what), facts[what]);
        }
        Due.due("its ENTRY stays", x.entryAt(0, 2, 3), 5);
        Due.due("its KEYS", x.keyOf(0, 1), -2);
        Due.due("no LEADER NOW", x.leaderNow(), -2);
        x = Due.settled(7);
        x.ask(0, 0);
        x.crash(1);
        Due.due("a READ of another is open", x.readIs(0, 0), 0);
        x.ticks(3);
        x.crash(0);
        Due.due("an answered READ stays so", x.readIs(0, 0), 1);
        x = new TermLog();
        for (int n = 0; n < 7; n++) Due.due("crash " + n, x.crash(n), true);

        Due.says(3, "false: it is DOWN, no such NODE.");
        for (int n = 0; n < 7; n++) Due.due("again " + n, x.crash(n), false);
        for (int n : NO_NODES) Due.due("crash " + n, new TermLog().crash(n), false);
    }

    private static void promise4ComeUp() {
        Due.says(4, "`boolean comeUp(int node)`: A NODE that is DOWN comes up: FOLLOWER, COMMIT BASE, KEYS"
                + " the SNAPSHOT's, LEADER KNOWN none, it SETS TIMER: true;");
        TermLog x = Due.settled(7);
        x.write(0, 1, 5);
        x.ticks(5);
        x.compact(0);
        x.write(0, 1, 6);
        x.ticks(5);
        x.crash(0);
        int before = x.count(6);
        Due.due("come up", x.comeUp(0), true);
        Due.due("X", x.count(6), Due.xBehind(before, 1));
        int timer = 4 + Due.xBehind(before, 1) % 10;
        int[] facts = {1, 1, 0, 0, 3, 2, 2, timer, 7, 0, -2, 0, 0, 1};
        for (int what = 0; what < 14; what++) {
            Due.due("came up " + what, x.nodeIs(0, what), facts[what]);
        }
        Due.due("KEY", x.keyOf(0, 1), 5);
        Due.due("KEY of the SNAPSHOT", x.keyOf(0, 11), 5);
        x = new TermLog();
        for (int n = 0; n < 7; n++) {
            x.crash(n);
            Due.due("come up " + n, x.comeUp(n), true);
        }

        Due.says(4, "false: it is UP, no such NODE.");
        for (int n = 0; n < 7; n++) Due.due("again " + n, x.comeUp(n), false);
        for (int n : NO_NODES) Due.due("comeUp " + n, new TermLog().comeUp(n), false);
        before = x.count(6);
        x.comeUp(0);
        Due.due("no DRAW", x.count(6), before);
    }

    private static void promise5Cut() {
        Due.says(5, "`boolean cut(int one, int other, boolean is)`: A link between two NODES is cut (true),"
                + " joined: true;");
        TermLog x = Due.settled(7);
        Due.quiet(x);
        Due.due("cut", x.cut(0, 1, true), true);
        Due.due("again, the other way round", x.cut(1, 0, true), true);
        Due.due("one link", x.count(9), 1);
        x.write(0, 1, 1);
        Due.due("sent all the same", x.count(2), 2);
        x.ticks(1);
        Due.due("lost when due", x.count(8), 1);
        Due.due("LAST of 1", x.nodeIs(1, 4), 1);
        Due.due("LAST of 2", x.nodeIs(2, 4), 2);
        Due.due("join", x.cut(0, 1, false), true);
        Due.due("again", x.cut(1, 0, false), true);
        Due.due("no link", x.count(9), 0);
        x.write(0, 1, 2);
        x.ticks(1);
        Due.due("handed over", x.nodeIs(1, 4), 3);
        int links = 0;
        for (int a = 0; a < 7; a++) {
            for (int b = 0; b < a; b++) {
                Due.due("cut " + a + b, x.cut(a, b, true), true);
                links++;
                Due.due("links cut", x.count(9), links);
            }
        }
        Due.due("all of them", links, 21);

        Due.says(5, "false: no such ones, one and itself.");
        for (int n : NO_NODES) {
            Due.due("cut " + n + " 0", x.cut(n, 0, true), false);
            Due.due("cut 0 " + n, x.cut(0, n, true), false);
            Due.due("join " + n + " 0", x.cut(n, 0, false), false);
            Due.due("join 0 " + n, x.cut(0, n, false), false);
            Due.due("cut " + n + " " + n, x.cut(n, n, true), false);
        }
        for (int n = 0; n < 7; n++) {
            Due.due("cut itself " + n, x.cut(n, n, true), false);
            Due.due("join itself " + n, x.cut(n, n, false), false);
        }
        Due.due("links cut yet", x.count(9), 21);
    }

    private static void promise6Compact() {
        Due.says(6, "`boolean compact(int node)`: An UP NODE COMPACTS: true;");
        TermLog x = Due.settled(7);
        x.write(0, 3, 33);
        x.ticks(2);
        Due.due("compact", x.compact(0), true);
        Due.due("BASE", x.nodeIs(0, 6), 2);
        Due.due("COMMIT of 1", x.nodeIs(1, 5), 1);
        Due.due("a FOLLOWER", x.compact(1), true);
        Due.due("BASE of 1", x.nodeIs(1, 6), 1);

        Due.says(6, "false: COMMIT is BASE, it is DOWN, no such NODE.");
        Due.due("COMMIT is BASE", x.compact(0), false);
        Due.due("COMMIT is BASE, of 1", x.compact(1), false);
        Due.due("COMMIT and BASE 0", x.compact(6), false);
        x.ticks(6);
        Due.due("COMMIT is one more", x.nodeIs(1, 5) - x.nodeIs(1, 6), 1);
        x.crash(1);
        Due.due("DOWN", x.compact(1), false);
        x.comeUp(1);
        Due.due("COMMIT is BASE as it came up", x.compact(1), false);
        x.ticks(6);
        Due.due("COMMIT is one more again", x.compact(1), true);
        for (int n : NO_NODES) Due.due("compact " + n, x.compact(n), false);
    }

    private static void promise7Write() {
        Due.says(7, "`int write(int node, int key, int value)`: A write of a KEY (0 to 7), a value (0 to"
                + " 99) to a LEADER that is UP: an ENTRY of its TERM is laid (MATCH of itself LAST), it"
                + " SENDS TO ALL, then it HOLDS: its INDEX;");
        TermLog x = Due.ledByZero(7);
        Due.due("a write", x.write(0, 7, 99), 2);
        Due.due("MATCH of itself", x.about(0, 0, 1), 2);
        Due.due("sent", x.count(2), 4);
        Due.due("ENTRIES", x.message(2, 5), 2);
        int[] parts = {1, 0, 7, 99};
        for (int what = 0; what < 4; what++) {
            Due.due("ENTRY " + what, x.entryAt(0, 2, what), parts[what]);
        }
        Due.due("the least", x.write(0, 0, 0), 3);
        Due.due("not HELD yet", x.count(3), 0);
        x.ticks(6);
        Due.due("HELD", x.count(3), 3);
        Due.due("KEY 7", x.keyOf(1, 7), 99);
        x = Due.settled(1);
        Due.due("one alone", x.write(0, 4, 44), 2);
        Due.due("it HOLDS", x.keyOf(0, 4), 44);
        for (int key = 0; key < 8; key++) Due.due("KEY " + key, x.write(0, key, 1), 3 + key);

        Due.says(7, "-2: it is no LEADER, DOWN;");
        x = Due.settled(7);
        Due.due("a FOLLOWER", x.write(1, 0, 0), -2);
        Due.due("no MEMBER", x.write(6, 0, 0), -2);
        x.crash(0);
        Due.due("DOWN", x.write(0, 0, 0), -2);
        x.comeUp(0);
        Due.due("UP again", x.write(0, 0, 0), -2);
        Due.standSoon(x, 1);
        x.ticks(4);
        Due.due("a CANDIDATE", x.nodeIs(1, 3) * 10 + x.write(1, 0, 0), 8);

        Due.says(7, "-3: no room (40 ENTRIES or more, LAST 999);");
        x = Due.settled(1);
        Due.due("38 writes", Due.plan(x, "9(4w001)2w001"), 38);
        Due.due("at 39 ENTRIES", x.write(0, 0, 1), 40);
        Due.due("at 40 ENTRIES", x.write(0, 0, 1), -3);
        Due.due("LAST", x.nodeIs(0, 4), 40);
        Due.makeLead(x, 0);
        Due.due("at 41 ENTRIES", x.nodeIs(0, 4) * 10 + x.write(0, 0, 1), 407);
        x.compact(0);
        Due.due("at none", x.write(0, 0, 1), 42);
        x = NodesTest.far(998);
        x.compact(0);
        Due.due("LAST 998", x.write(0, 0, 1), 999);
        Due.due("LAST 999", x.write(0, 0, 1), -3);
        x.compact(0);
        Due.due("LAST 999, no ENTRIES", x.write(0, 0, 1), -3);

        Due.says(7, "NONE: no such ones.");
        x = Due.settled(7);
        for (int n : NO_NODES) Due.due("NODE " + n, x.write(n, 0, 0), -1);
        for (int key : new int[] {-1, 8, 9, 10, MAX, MIN}) {
            Due.due("KEY " + key, x.write(0, key, 0), -1);
        }
        for (int value : new int[] {-1, 100, 101, 128, MAX, MIN}) {
            Due.due("value " + value, x.write(0, 0, value), -1);
        }
        Due.due("LAST", x.nodeIs(0, 4), 1);
    }

    private static void promise8Change() {
        Due.says(8, "`int change(int node, int some)`: A change to some NODES (bits 1 to 127) by a LEADER"
                + " that is UP: an ENTRY of KIND 1 with its CONFIG's old ones, and these as new ones, is"
                + " laid as a write is: its INDEX;");
        TermLog x = Due.ledByZero(7);
        Due.due("to four", x.change(0, 15), 2);
        int[] parts = {1, 1, 7, 15};
        for (int what = 0; what < 4; what++) {
            Due.due("joint ENTRY " + what, x.entryAt(0, 2, what), parts[what]);
        }
        Due.due("MATCH of itself", x.about(0, 0, 1), 2);
        Due.due("sent to all", Due.way(x), "012 022 012 022 032 ");
        x.ticks(12);
        Due.due("all have it", x.nodeIs(3, 8), 15);
        Due.due("1", Due.settled(7).change(0, 1), 2);
        Due.due("127", Due.settled(7).change(0, 127), 2);
        Due.due("126", Due.settled(7).change(0, 126), 2);
        x = Due.settled(3);
        Due.due("one of two", x.change(0, 1), 2);
        x = Due.settled(1);
        Due.due("one alone, to two", x.change(0, 3), 2);
        Due.due("not HELD by one", x.nodeIs(0, 5), 1);

        Due.says(8, "-2: it is no LEADER, DOWN; -3: no room (as above);");
        x = Due.settled(7);
        Due.due("a FOLLOWER", x.change(1, 3), -2);
        Due.due("no MEMBER", x.change(6, 3), -2);
        x.crash(0);
        Due.due("DOWN", x.change(0, 3), -2);
        x = Due.settled(1);
        Due.plan(x, "9(4w001)2w001");
        Due.due("at 39 ENTRIES", x.change(0, 3), 40);
        x = Due.settled(1);
        Due.plan(x, "9(4w001)3w001");
        Due.due("at 40 ENTRIES", x.change(0, 3), -3);
        x = NodesTest.far(998);
        x.compact(0);
        Due.due("LAST 998", x.change(0, 3), 999);
        x = NodesTest.far(999);
        x.compact(0);
        Due.due("LAST 999", x.change(0, 3), -3);

        Due.says(8, "-4: its CONFIG is joint, not HELD by its COMMIT yet, or is these;");
        x = Due.settled(7);
        Due.due("is these, by BASE", x.change(0, 7), -4);
        Due.due("others", x.change(0, 11), 2);
        Due.due("joint, not HELD", x.change(0, 7), -4);
        Due.due("joint, not HELD, to the new ones", x.change(0, 11), -4);
        Due.tickTill(x, y -> y.nodeIs(0, 9) == 0);
        Due.due("the last is laid, not HELD", x.nodeIs(0, 5) < 3, true);
        Due.due("not HELD yet", x.change(0, 3), -4);
        Due.tickTill(x, y -> y.nodeIs(0, 5) == 3);
        Due.due("HELD, is these", x.change(0, 11), -4);
        Due.due("HELD, others", x.change(0, 3), 4);
        // joint and HELD, but that there was no room for the last
        x = NodesTest.far(998);
        x.compact(0);
        x.change(0, 3);
        x.ticks(12);
        Due.due("joint, HELD, no room", x.nodeIs(0, 5) * 10 + x.nodeIs(0, 9), 9993);

        Due.says(8, "NONE: no such ones.");
        x = Due.settled(7);
        for (int n : NO_NODES) Due.due("NODE " + n, x.change(n, 3), -1);
        for (int some : new int[] {0, -1, 128, 129, 255, MAX, MIN}) {
            Due.due("bits " + some, x.change(0, some), -1);
        }
        Due.due("LAST", x.nodeIs(0, 4), 1);
    }

    private static void promise9Ask() {
        Due.says(9, "`int ask(int node, int key)`: A READ of a KEY of a NODE: its number; -2: it is no"
                + " LEADER, DOWN; -3: 16 were asked; -4: the ENTRY at COMMIT is not of its TERM;");
        TermLog x = Due.ledByZero(7);
        Due.due("too early", x.ask(0, 0), -4);
        x.ticks(6);
        for (int i = 0; i < 8; i++) {
            Due.due("KEY " + i, x.ask(0, i), i);
            Due.due("its KEY", x.readIs(i, 3), i);
        }
        Due.due("a FOLLOWER", x.ask(1, 0), -2);
        Due.due("no MEMBER", x.ask(6, 0), -2);
        for (int i = 8; i < 16; i++) Due.due("READ " + i, x.ask(0, 0), i);
        Due.due("a 17th", x.ask(0, 0), -3);
        x.crash(0);
        Due.due("DOWN", x.ask(0, 0), -2);
        x = Due.settled(7);
        Due.makeLead(x, 0);
        Due.due("COMMIT 0 at TERM 2", x.ask(0, 0), -4);

        Due.says(9, "NONE: no such ones.");
        x = Due.settled(7);
        for (int n : NO_NODES) Due.due("NODE " + n, x.ask(n, 0), -1);
        for (int key : new int[] {-1, 8, 9, 10, MAX, MIN}) {
            Due.due("KEY " + key, x.ask(0, key), -1);
        }
        Due.due("none is asked", x.count(7), 0);
    }

    private static void promise10Feed() {
        Due.says(10, "`int feed(int a, int b, int c, int d, int e)`: Twenty bytes come behind the tape, the"
                + " highest of each int first: how many it has;");
        TermLog x = new TermLog();
        Due.due("feed", x.feed(0x01020304, 0x05060708, -1, 0, 0), 20);
        Due.due("feed again", x.feed(0, 0, 0, 0, 0), 40);
        Due.due("bytes", x.count(5), 40);
        x = new TermLog();
        x.feed('.' << 24 | '2' << 16 | '.' << 8 | 'k', '5' << 24, 0, 0, 0);
        Due.due("the highest byte first", x.plan(5), 3 + 1);
        Due.due("crashed", x.nodeIs(5, 0), 0);
        x = new TermLog();
        x.feed(0x2E2E2E2E, 0x2E2E2E2E, 0x2E2E2E2E, 0x2E2E2E2E, 0x2E2E2E2E);
        x.feed(0x2E2E2E2E, 0x2E2E2E2E, 0x2E2E2E2E, 0x2E2E2E2E, 0x2E2E2E6B);
        Due.due("forty, the last not so", x.plan(40), -1040);
        // a byte is 0 to 255
        for (int b : new int[] {0x00, 0x7F, 0x80, 0xFF}) {
            for (int shift = 0; shift < 32; shift += 8) {
                x = new TermLog();
                for (int n = 0; n < 7; n++) x.crash(n);
                x.feed(~0 & ~(255 << shift) | (255 & b) << shift, 0, 0, 0, 0);
                int want = b == 255 ? -1 : 3 - shift / 8;
                Due.due("byte " + b + " at " + shift, x.check(4), want);
            }
        }
        // behind the tape: the first twenty are the first
        x = new TermLog();
        Due.feed(x, "k1k2k3k4k5k6u1u2u3u4");
        Due.feed(x, "k1..................");
        Due.due("twenty and two", x.plan(22), 11);
        Due.due("1, 5, 6 are DOWN", x.count(1), 127 - 2 - 32 - 64);

        Due.says(10, "NONE if that would be more than 260.");
        x = new TermLog();
        for (int i = 1; i <= 12; i++) x.feed(0, 0, 0, 0, i);
        Due.due("240", x.count(5), 240);
        Due.due("a 13th", x.feed(0, 0, 0, 0, 13), 260);
        Due.due("a 14th", x.feed(1, 2, 3, 4, 5), -1);
        Due.due("260 stay", x.count(5), 260);
        Due.due("again", x.feed(-1, -1, -1, -1, -1), -1);
        Due.due("the first ones are as they were", x.check(8), -1);
        Due.due("empty", x.count(5), 0);
        Due.due("room again", x.feed(1, 2, 3, 4, 5), 20);
    }

    private static void promise11Law() {
        Due.says(11, "`int law(int n)`: THE LAW by the first n bytes of the tape (1 to 240; empty then), in"
                + " place of the one before: how many RULES;");
        TermLog x = new TermLog();
        Due.due("a LAW", Due.law(x, "d2(k=0);l3(t=1);e9(f=f);x(w>8)"), 4);
        Due.due("RULES", x.count(4), 4);
        Due.due("empty then", x.count(5), 0);
        x.crash(1);
        x.comeUp(1);
        Due.due("asked", x.nodeIs(1, 7) - x.count(6) % 10, 9);
        Due.due("another", Due.law(x, "d1(f=f)"), 1);
        Due.due("in place of it", x.count(4), 1);
        x.crash(1);
        x.comeUp(1);
        Due.due("asked no more", x.nodeIs(1, 7) - x.count(6) % 10, 8);
        // the first n bytes of more
        Due.feed(x, "x(f=0);e9(f=f)");
        Due.due("law(6) of 20", x.law(6), 1);
        Due.due("empty then, all of it", x.count(5), 0);
        for (int i = 0; i < 13; i++) Due.feed(x, "x(f=0);x(f=00000=0);".substring(0, 20));
        Due.due("law(1) of 260", x.law(1), -1001);
        Due.due("empty then, of 260", x.count(5), 0);

        Due.says(11, "a FAULT: -1000 times its number, less its place (the one before stays);");
        x = new TermLog();
        Due.law(x, "e20(f=f);x(f=0)");
        Due.due("FAULT 1 at 0", Due.law(x, "y"), -1000);
        Due.due("FAULT 1 at 10", Due.law(x, "d2(k=0);l3"), -1010);
        Due.due("FAULT 2 at 6", Due.law(x, "d123456"), -2006);
        Due.due("FAULT 5 at 7", Due.law(x, "x((((((("), -5007);
        String long1 = "e" + "1+".repeat(119);
        Due.due("FAULT 1 at 239", Due.law(x, long1), -1239);
        Due.due("FAULT 1 at 240", Due.law(x, long1 + "1"), -1240);
        Due.due("RULES stay", x.count(4), 2);
        Due.due("empty then", x.count(5), 0);
        x.crash(1);
        x.comeUp(1);
        Due.due("and are asked", x.nodeIs(1, 7) - x.count(6) % 10, 20);

        Due.says(11, "NONE: no such n, it has not so many (the tape stays).");
        x = new TermLog();
        Due.due("law(1) of none", x.law(1), -1);
        Due.feed(x, "x(f=0);d1(f=f);d2(f=f)".substring(0, 20));
        for (int n : new int[] {0, -1, 21, 240, 241, 260, MAX, MIN}) {
            Due.due("law(" + n + ") of 20", x.law(n), -1);
            Due.due("the tape stays", x.count(5), 20);
        }
        Due.due("law(14) of 20", x.law(14), 2);
        for (int i = 0; i < 13; i++) Due.feed(x, "+1+1+1+1+1+1+1+1+1+1");
        Due.due("law(241) of 260", x.law(241), -1);
        Due.due("the tape stays at 260", x.count(5), 260);
        Due.due("law(240) of 260", x.law(240), -1000);
        Due.due("empty then", x.count(5), 0);
    }

    private static void promise12Plan() {
        Due.says(12, "`int plan(int n)`: A PLAN by the first n bytes of the tape (1 to 120; empty then): how"
                + " many ACTS were not refused (a TICK that did not go by, true as false, an answer below"
                + " 0 is refused);");
        TermLog x = new TermLog();
        Due.due("a PLAN", Due.plan(x, "3.k0u0u1x01"), 6);
        Due.due("empty then", x.count(5), 0);
        Due.due("crashes once", Due.plan(x, "3k0"), 1);
        Due.due("comes up once", Due.plan(x, "3u0"), 1);
        Due.due("UP comes up", Due.plan(x, "u0"), 0);
        Due.due("nothing to COMPACT", Due.plan(x, "c0"), 0);
        Due.due("a write to none that LEADS", Due.plan(x, "w011"), 0);
        Due.due("a READ of none that LEADS", Due.plan(x, "r01"), 0);
        Due.due("cut twice", Due.plan(x, "2x01"), 2);
        Due.due("joined twice", Due.plan(x, "2j01"), 2);
        x = Due.ledByZero(7);
        Due.due("a READ too early", Due.plan(x, "r01"), 0);
        x = Due.settled(7);
        Due.due("READS 0 to 15, not -3", Due.plan(x, "9(2r01)"), 16);
        Due.due("READS asked", x.count(7), 16);
        x = Due.settled(1);
        Due.due("writes till there is no room", Due.plan(x, "9(9w001)"), 39);
        Due.due("COMPACTS once", Due.plan(x, "2c0w001"), 2);
        x = new TermLog();
        for (int i = 0; i < 49; i++) x.ticks(200);
        x.ticks(197);
        Due.due("THE TICK", x.count(0), 9997);
        Due.due("of four TICKS two", Due.plan(x, "4.k0"), 3);
        // the first n bytes of more
        x = new TermLog();
        Due.feed(x, ".".repeat(140));
        Due.due("plan(120) of 140", x.plan(120), 120);
        Due.due("empty then, all of it", x.count(5), 0);
        Due.feed(x, ".");
        Due.due("plan(1) of 20", x.plan(1), 1);
        Due.due("empty then, of 20", x.count(5), 0);

        Due.says(12, "a FAULT (nothing is done); NONE: as above.");
        x = new TermLog();
        Due.due("a FAULT", Due.plan(x, "3.k9"), -1003);
        Due.due("THE TICK", x.count(0), 0);
        Due.due("empty then", x.count(5), 0);
        Due.due("at the end", Due.plan(x, ".".repeat(119) + "k"), -1120);
        Due.due("THE TICK yet", x.count(0), 0);
        Due.due("plan(1) of none", x.plan(1), -1);
        Due.feed(x, ".....");
        for (int n : new int[] {0, -1, 21, 120, 121, 240, MAX, MIN}) {
            Due.due("plan(" + n + ") of 20", x.plan(n), -1);
            Due.due("the tape stays", x.count(5), 20);
        }
        Due.due("THE TICK stays", x.count(0), 0);
        Due.feed(x, ".".repeat(120));
        Due.due("plan(121) of 140", x.plan(121), -1);
        Due.due("the tape stays at 140", x.count(5), 140);
    }

    private static void promise13Ticks() {
        Due.says(13, "`int ticks(int n)`: TICKS (1 to 200; as many as can) go by: how many INDEXES were HELD"
                + " FOR SURE in them; NONE: no such n.");
        TermLog x = new TermLog();
        Due.due("ticks(200)", x.ticks(200) >= 1, true);
        Due.due("THE TICK", x.count(0), 200);
        Due.due("ticks(1)", x.ticks(1), 0);
        Due.due("ticks(199)", x.ticks(199), 0);
        Due.due("THE TICK then", x.count(0), 400);
        for (int n : NO_COUNTS) Due.due("ticks(" + n + ")", x.ticks(n), -1);
        Due.due("THE TICK stays", x.count(0), 400);
        x = Due.settled(7);
        Due.quiet(x);
        for (int i = 0; i < 3; i++) x.write(0, 0, 0);
        Due.due("HELD in one", x.ticks(1), 0);
        Due.due("HELD in two", x.ticks(1), 3);
        Due.due("HELD in three", x.ticks(1), 0);
        for (int i = 0; i < 49; i++) x.ticks(200);
        x.ticks(9990 - x.count(0));
        x.write(0, 0, 0);
        Due.due("as many as can: HELD", x.ticks(200), 1);
        Due.due("as many as can: THE TICK", x.count(0), 9999);
        Due.due("none can", x.ticks(200), 0);
    }

    private static void promise14Tried() {
        Due.says(14, "`int tried(int n, int what)`: TICKS (1 to 200; as many as can) that are tried, what 0"
                + " INDEXES HELD FOR SURE in them, 1 LEADER NOW then (none: -2), 2 MESSAGES on their way, 3"
                + " promises BROKEN then,");
        TermLog x = new TermLog();
        Due.due("no LEADER in 11", x.tried(11, 1), -2);
        Due.due("a LEADER in 12", x.tried(12, 1), 0);
        Due.due("none HELD in 13", x.tried(13, 0), 0);
        Due.due("HELD in 14", x.tried(14, 0), 1);
        Due.due("on their way in 12", x.tried(12, 2), 2);
        Due.due("BROKEN in 200", x.tried(200, 3), 0);
        Due.due("THE TICK", x.count(0), 0);
        Due.due("X", x.count(6), 65216);
        x.ticks(14);
        Due.due("HELD in them, not before", x.tried(1, 0), 0);
        x.write(0, 0, 1);
        x.write(0, 0, 2);
        Due.due("two HELD in them", x.tried(200, 0), 2);
        for (int i = 0; i < 49; i++) x.ticks(200);
        x.ticks(9998 - x.count(0));
        Due.due("as many as can", x.tried(200, 2), x.tried(1, 2));

        Due.says(14, "10 + k COMMIT, 20 + k TERM, 30 + k ROLE of NODE k then (DOWN: COMMIT as it was when it"
                + " crashed, ROLE 0);");
        x = new TermLog();
        Due.due("COMMIT of 0", x.tried(14, 10), 1);
        Due.due("COMMIT of 1", x.tried(14, 11), 0);
        Due.due("TERM of 1", x.tried(14, 21), 1);
        Due.due("TERM of 3", x.tried(14, 23), 0);
        Due.due("ROLE of 0", x.tried(14, 30), 2);
        Due.due("ROLE of 0 in 10", x.tried(10, 30), 1);
        Due.due("ROLE of 6", x.tried(14, 36), 0);
        x = Due.settled(7);
        x.write(0, 1, 1);
        x.ticks(4);
        x.crash(0);
        Due.due("COMMIT as it was", x.tried(1, 10), 2);
        Due.due("COMMIT as it was in 200", x.tried(200, 10), 2);
        Due.due("ROLE of one DOWN", x.tried(1, 30), 0);
        Due.due("TERM of one DOWN", x.tried(1, 20), 1);
        Due.due("COMMIT asked now", x.nodeIs(0, 5), -2);

        Due.says(14, "NONE: no such ones.");
        for (int what : new int[] {-1, 4, 5, 9, 17, 18, 19, 27, 28, 29, 37, 40, 100, MAX, MIN}) {
            Due.due("what " + what, x.tried(1, what), -1);
        }
        for (int n : NO_COUNTS) {
            Due.due("tried(" + n + ", 0)", x.tried(n, 0), -1);
            Due.due("tried(" + n + ", 10)", x.tried(n, 10), -1);
        }
    }

    private static void promise15NodeIs() {
        Due.says(15, "`int nodeIs(int node, int what)`: Of a NODE, what 0 UP (1, 0), 1 TERM, 2 VOTE (none:"
                + " -2), 3 ROLE, 4 LAST, 5 COMMIT, 6 BASE, 7 TIMER, 8 old ones, 9 new ones of its CONFIG,"
                + " 10 LEADER KNOWN (none: -2), 11 VOTES, 12 ROUND");
        TermLog x = Due.settled(7);
        Due.law(x, "e20-w(f=f)");
        x.write(0, 0, 1);
        x.ticks(6);
        Due.quiet(x);
        x.compact(0);
        x.change(0, 79);
        int[] leader = {1, 1, 0, 2, 3, 2, 2, -9, 7, 79, 0, 3, -9};
        for (int what = 0; what < 13; what++) {
            if (leader[what] != -9) Due.due("LEADER " + what, x.nodeIs(0, what), leader[what]);
        }
        x.ticks(1);
        int[] follower = {1, 1, 0, 0, 3, 2, 0, 19, 7, 79, 0, 0, 0};
        for (int what = 0; what < 13; what++) {
            Due.due("FOLLOWER " + what, x.nodeIs(1, what), follower[what]);
        }
        int[] other = {1, 0, -2, 0, 0, 0, 0, -9, 7, 0, -2, 0, 0};
        for (int what = 0; what < 13; what++) {
            if (what != 7) Due.due("no MEMBER " + what, x.nodeIs(5, what), other[what]);
        }

        Due.says(15, "(both as they were last; behind coming up, FOUNDED: 0), 13 the TERM of LAST");
        x = Due.settled(7);
        int votes = x.nodeIs(0, 11);
        x.cut(0, 1, true);
        x.cut(0, 2, true);
        Due.makeLead(x, 1);
        int round = x.nodeIs(0, 12);
        x.cut(0, 1, false);
        Due.law(x, "e40(f=f)");
        Due.tickTill(x, y -> y.nodeIs(0, 3) == 0);
        Due.due("VOTES as they were last", x.nodeIs(0, 11), votes);
        Due.due("ROUND as it was last", x.nodeIs(0, 12) >= round, true);
        round = x.nodeIs(0, 12);
        x.ticks(6);
        Due.due("ROUND stays", x.nodeIs(0, 12), round);
        Due.due("TERM of LAST", x.nodeIs(0, 13), 2);
        x.crash(0);
        x.comeUp(0);
        Due.due("VOTES behind coming up", x.nodeIs(0, 11), 0);
        Due.due("ROUND behind coming up", x.nodeIs(0, 12), 0);
        Due.due("TERM of LAST behind coming up", x.nodeIs(0, 13), 2);
        Due.due("VOTES of 1", x.nodeIs(1, 11) != 0, true);
        x.found(7);
        Due.due("VOTES, FOUNDED", x.nodeIs(1, 11), 0);
        Due.due("ROUND, FOUNDED", x.nodeIs(1, 12), 0);
        Due.due("TERM of LAST, FOUNDED", x.nodeIs(1, 13), 0);

        Due.says(15, "(DOWN: of 3, 5, 7, 10 to 12 -2); NONE: no such ones.");
        x = Due.settled(7);
        x.crash(2);
        int[] down = {0, 1, 0, -2, 1, -2, 0, -2, 7, 0, -2, -2, -2, 1};
        for (int what = 0; what < 14; what++) {
            Due.due("DOWN " + what, x.nodeIs(2, what), down[what]);
        }
        for (int what : new int[] {-1, 14, 15, MAX, MIN}) {
            Due.due("what " + what, x.nodeIs(0, what), -1);
            Due.due("what " + what + " of one DOWN", x.nodeIs(2, what), -1);
        }
        for (int n : NO_NODES) Due.due("NODE " + n, x.nodeIs(n, 0), -1);
    }

    private static void promise16EntryAt() {
        Due.says(16, "`int entryAt(int node, int index, int what)`: An ENTRY of a NODE by INDEX (1 to 999),"
                + " what 0 TERM, 1 KIND, 2 KEY or old ones, 3 value or new ones;");
        TermLog x = Due.settled(7);
        x.write(0, 6, 66);
        x.change(0, 23);
        int[][] all = {{1, 2, 0, 0}, {1, 0, 6, 66}, {1, 1, 7, 23}};
        for (int i = 0; i < 3; i++) {
            for (int what = 0; what < 4; what++) {
                Due.due("ENTRY", x.entryAt(0, i + 1, what), all[i][what]);
            }
        }
        Due.due("999", NodesTest.far(999).entryAt(0, 999, 3), 1);

        Due.says(16, "-2: there is none (up to BASE, behind LAST); NONE: no such ones.");
        Due.due("behind LAST", x.entryAt(0, 4, 0), -2);
        Due.due("at 999", x.entryAt(0, 999, 3), -2);
        for (int index : new int[] {0, -1, 1000, 9999, MAX, MIN}) {
            Due.due("INDEX " + index, x.entryAt(0, index, 0), -1);
        }
        for (int what : new int[] {-1, 4, 5, MAX, MIN}) {
            Due.due("what " + what, x.entryAt(0, 1, what), -1);
            Due.due("what " + what + " of none", x.entryAt(0, 99, what), -1);
        }
        for (int n : NO_NODES) Due.due("NODE " + n, x.entryAt(n, 1, 0), -1);
        x.ticks(2);
        x.compact(0);
        Due.due("BASE", x.nodeIs(0, 6), 3);
        Due.due("LAST", x.nodeIs(0, 4), 4);
        Due.due("at BASE", x.entryAt(0, 3, 0), -2);
        Due.due("below BASE", x.entryAt(0, 1, 0), -2);
        Due.due("above BASE", x.entryAt(0, 4, 0), 1);
        x.crash(1);
        Due.due("of one DOWN", x.entryAt(1, 2, 3), 66);
    }

    private static void promise17KeyOf() {
        Due.says(17, "`int keyOf(int node, int key)`: A KEY (0 to 7) of an UP NODE; 10 + KEY: of its"
                + " SNAPSHOT, also DOWN; -2: DOWN; NONE: no such ones.");
        TermLog x = Due.settled(7);
        for (int key = 0; key < 8; key++) x.write(0, key, 10 * key + 9);
        x.ticks(9);
        x.compact(1);
        x.write(0, 7, 1);
        x.ticks(6);
        for (int key = 0; key < 8; key++) {
            Due.due("KEY " + key, x.keyOf(1, key), key == 7 ? 1 : 10 * key + 9);
            Due.due("of the SNAPSHOT " + key, x.keyOf(1, 10 + key), 10 * key + 9);
        }
        int[] none = {-1, -2, 8, 9, 18, 19, 20, 99, MAX, MIN};
        for (int key : none) Due.due("KEY " + key, x.keyOf(1, key), -1);
        for (int n : NO_NODES) {
            Due.due("NODE " + n, x.keyOf(n, 0), -1);
            Due.due("NODE " + n + ", of the SNAPSHOT", x.keyOf(n, 10), -1);
        }
        x.crash(1);
        for (int key = 0; key < 8; key++) {
            Due.due("DOWN " + key, x.keyOf(1, key), -2);
            Due.due("DOWN, of the SNAPSHOT " + key, x.keyOf(1, 10 + key), 10 * key + 9);
        }
        for (int key : none) Due.due("DOWN, KEY " + key, x.keyOf(1, key), -1);
    }

    private static void promise18About() {
        Due.says(18, "`int about(int leader, int node, int what)`: Of a LEADER that is UP about a NODE, what"
                + " 0 NEXT, 1 MATCH, 2 HEARD (of itself NEXT as told by LEADS, HEARD 0);");
        TermLog x = Due.ledByZero(7);
        for (int n = 0; n < 7; n++) {
            Due.due("NEXT of " + n, x.about(0, n, 0), 1);
            Due.due("MATCH of " + n, x.about(0, n, 1), n == 0 ? 1 : 0);
            Due.due("HEARD of " + n, x.about(0, n, 2), 0);
        }
        x.ticks(2);
        Due.due("NEXT then", x.about(0, 1, 0), 2);
        Due.due("MATCH then", x.about(0, 1, 1), 1);
        Due.due("HEARD then", x.about(0, 1, 2), 1);
        x.write(0, 0, 1);
        x.ticks(6);
        Due.due("NEXT of itself", x.about(0, 0, 0), 1);
        Due.due("MATCH of itself", x.about(0, 0, 1), 2);
        Due.due("HEARD of itself", x.about(0, 0, 2), 0);
        Due.due("of no MEMBER", x.about(0, 6, 0), 1);

        Due.says(18, "-2: it is no LEADER, DOWN; NONE: no such ones.");
        Due.due("a FOLLOWER", x.about(1, 0, 0), -2);
        Due.due("no MEMBER LEADS", x.about(6, 0, 2), -2);
        for (int what : new int[] {-1, 3, 4, MAX, MIN}) {
            Due.due("what " + what, x.about(0, 1, what), -1);
            Due.due("a FOLLOWER, what " + what, x.about(1, 0, what), -1);
        }
        for (int n : NO_NODES) {
            Due.due("NODE " + n, x.about(0, n, 0), -1);
            Due.due("LEADER " + n, x.about(n, 0, 0), -1);
            Due.due("of a FOLLOWER " + n, x.about(1, n, 0), -1);
        }
        x.crash(0);
        Due.due("DOWN", x.about(0, 1, 0), -2);
        x.comeUp(0);
        Due.due("UP again", x.about(0, 1, 0), -2);
    }

    private static void promise19Message() {
        Due.says(19, "`int message(int i, int what)`: A MESSAGE on its way i (0 on, as SENT), what 0 from, 1"
                + " to, 2 KIND, 3 TERM, 4 when it is due, 5 how many ENTRIES;");
        TermLog x = Due.ledByZero(7);
        int tick = x.count(0);
        int[][] all = {{0, 1, 2, 1, tick + 1, 1}, {0, 2, 2, 1, tick + 1, 1}};
        for (int i = 0; i < 2; i++) {
            for (int what = 0; what < 6; what++) {
                Due.due("MESSAGE " + i, x.message(i, what), all[i][what]);
            }
        }
        Due.law(x, "d5(t=1)");
        x.write(0, 0, 0);
        Due.law(x, "d0(t=1)");
        x.write(0, 0, 1);
        Due.due("as SENT, whenever due", x.message(2, 4), tick + 6);
        Due.due("behind it", x.message(4, 4), tick + 1);
        Due.due("two ENTRIES", x.message(2, 5), 2);
        Due.due("three ENTRIES", x.message(5, 5), 3);
        x.ticks(1);
        Due.due("late, first now", x.message(0, 4), tick + 6);
        Due.due("the answer behind it", x.message(1, 2), 3);
        Due.due("no ENTRIES", x.message(1, 5), 0);
        x.ticks(4);
        Due.due("late yet", x.message(0, 4), tick + 6);
        x.ticks(1);
        Due.due("handed over", x.message(0, 4) != tick + 6, true);

        Due.says(19, "-4: there are not so many; NONE: no such ones.");
        x = Due.ledByZero(7);
        Due.due("1 of 2", x.message(1, 0), 0);
        for (int i : new int[] {2, 3, 159, 160, 161, MAX}) Due.due("i " + i, x.message(i, 0), -4);
        for (int i : new int[] {-1, -2, MIN}) Due.due("i " + i, x.message(i, 0), -1);
        for (int what : new int[] {-1, 6, 7, MAX, MIN}) {
            Due.due("what " + what, x.message(0, what), -1);
            Due.due("what " + what + " of none", x.message(2, what), -1);
        }
        Due.quiet(x);
        Due.due("none at all", x.message(0, 0), -4);
    }

    private static void promise20LeaderNow() {
        Due.says(20, "`int leaderNow()`: LEADER NOW: the UP LEADER of the greatest TERM (of like ones the"
                + " lowest); -2: none.");
        TermLog x = new TermLog();
        Due.due("none", x.leaderNow(), -2);
        x = Due.settled(31);
        Due.due("0", x.leaderNow(), 0);
        for (int n = 1; n < 5; n++) x.cut(0, n, true);
        Due.makeLead(x, 3);
        Due.due("0 LEADS yet", x.nodeIs(0, 3), 2);
        Due.due("3 of a greater TERM", x.leaderNow(), 3);
        x.crash(3);
        Due.due("0 again", x.leaderNow(), 0);
        x.crash(0);
        Due.due("none again", x.leaderNow(), -2);
        // a greater TERM of a lesser NODE; like ones can't be but from inside
        x = Due.settled(7);
        x.cut(0, 1, true);
        x.cut(0, 2, true);
        Due.makeLead(x, 2);
        Inside.set(new Inside(x).node(0), "term", 2);
        Due.due("of like ones the lowest", x.leaderNow(), 0);
        Inside.set(new Inside(x).node(0), "term", 3);
        Due.due("of a greater TERM the lower one", x.leaderNow(), 0);
    }

    private static void promise21HeldAt() {
        Due.says(21, "`int heldAt(int index, int what)`: HELD FOR SURE at an INDEX (1 to 9999), what 0 to 3"
                + " as entryAt(); -2: nothing yet; NONE: no such ones.");
        TermLog x = Due.ledByZero(7);
        Due.due("nothing yet", x.heldAt(1, 0), -2);
        x.ticks(6);
        x.write(0, 4, 40);
        x.change(0, 3);
        x.ticks(9);
        int[][] all = {{1, 2, 0, 0}, {1, 0, 4, 40}, {1, 1, 7, 3}, {1, 1, 3, 0}};
        for (int i = 0; i < 4; i++) {
            for (int what = 0; what < 4; what++) {
                Due.due("HELD", x.heldAt(i + 1, what), all[i][what]);
            }
        }
        for (int index : new int[] {5, 998, 999, 1000, 9998, 9999}) {
            Due.due("INDEX " + index, x.heldAt(index, 0), -2);
            Due.due("INDEX " + index + ", what 4", x.heldAt(index, 4), -1);
        }
        for (int index : new int[] {0, -1, 10000, MAX, MIN}) {
            Due.due("INDEX " + index, x.heldAt(index, 0), -1);
        }
        for (int what : new int[] {-1, 4, 5, MAX, MIN}) {
            Due.due("what " + what, x.heldAt(1, what), -1);
        }
        x.compact(0);
        for (int n = 0; n < 7; n++) x.crash(n);
        Due.due("whoever has it", x.heldAt(2, 3), 40);
        x = NodesTest.far(999);
        Due.due("at 999", x.heldAt(999, 3), 1);
        Due.due("at 1000", x.heldAt(1000, 3), -2);
    }

    private static void promise22ReadIs() {
        Due.says(22, "`int readIs(int i, int what)`: A READ, what 0 open 0, answered 1, lost 2, 1 its value"
                + " (not answered: -2), 2 its NODE, 3 its KEY; NONE: no such ones.");
        TermLog x = Due.settled(7);
        x.write(0, 5, 55);
        x.ask(0, 5);
        int[] open = {0, -2, 0, 5};
        for (int what = 0; what < 4; what++) Due.due("open", x.readIs(0, what), open[what]);
        x.ticks(2);
        int[] answered = {1, 55, 0, 5};
        for (int what = 0; what < 4; what++) Due.due("answered", x.readIs(0, what), answered[what]);
        x.ask(0, 6);
        x.crash(0);
        int[] lost = {2, -2, 0, 6};
        for (int what = 0; what < 4; what++) Due.due("lost", x.readIs(1, what), lost[what]);
        for (int i : new int[] {-1, 2, 15, 16, MAX, MIN}) Due.due("READ " + i, x.readIs(i, 0), -1);
        for (int what : new int[] {-1, 4, 5, MAX, MIN}) {
            Due.due("what " + what, x.readIs(0, what), -1);
        }
        Due.due("of no READS", new TermLog().readIs(0, 0), -1);
    }

    private static void promise23Broken() {
        Due.says(23, "`int broken(int what)`:");
        TermLog x = Due.settled(127);
        for (int what = 0; what < 3; what++) Due.due("broken", x.broken(what), 0);

        Due.says(23, "NONE: no such what.");
        for (int what : new int[] {-1, 3, 4, MAX, MIN}) Due.due("what " + what, x.broken(what), -1);
    }

    private static void promise24CouldWin() {
        Due.says(24, "`int couldWin(int node, int what)`: COULD WIN, what 0 it could (1, 0), 1 who grants"
                + " (bits);");
        TermLog x = Due.settled(31);
        for (int n = 0; n < 5; n++) {
            Due.due("it could " + n, x.couldWin(n, 0), 1);
            Due.due("who grants " + n, x.couldWin(n, 1), 31);
        }
        x.crash(2);
        x.crash(3);
        Due.due("three of five", x.couldWin(0, 0) * 100 + x.couldWin(0, 1), 119);
        x.crash(4);
        Due.due("two of five", x.couldWin(0, 0) * 100 + x.couldWin(0, 1), 3);

        Due.says(24, "-2: it is DOWN, no MEMBER; NONE: no such ones.");
        Due.due("DOWN", x.couldWin(3, 0), -2);
        Due.due("DOWN, who", x.couldWin(3, 1), -2);
        Due.due("no MEMBER", x.couldWin(5, 0), -2);
        Due.due("no MEMBER, who", x.couldWin(6, 1), -2);
        for (int what : new int[] {-1, 2, 3, MAX, MIN}) {
            Due.due("what " + what, x.couldWin(0, what), -1);
            Due.due("DOWN, what " + what, x.couldWin(3, what), -1);
        }
        for (int n : NO_NODES) Due.due("NODE " + n, x.couldWin(n, 0), -1);
    }

    private static void promise25Majority() {
        Due.says(25, "`int majority(int node, int some)`: Whether some NODES (bits 0 to 127) are a MAJORITY"
                + " of a NODE's CONFIG: 1, 0; NONE: no such ones.");
        TermLog x = new TermLog();
        x.found(31);
        Due.due("three of five", x.majority(0, 7), 1);
        Due.due("two of five", x.majority(0, 3), 0);
        Due.due("two and others", x.majority(0, 99), 0);
        Due.due("none", x.majority(0, 0), 0);
        Due.due("all", x.majority(6, 127), 1);
        for (int some : new int[] {-1, 128, 129, 255, MAX, MIN}) {
            Due.due("bits " + some, x.majority(0, some), -1);
        }
        for (int n : NO_NODES) Due.due("NODE " + n, x.majority(n, 1), -1);
        x = Due.settled(7);
        x.change(0, 56);
        Due.due("two of each", x.majority(0, 27), 1);
        Due.due("old ones alone", x.majority(0, 7), 0);
        Due.due("of 1, that does not know", x.majority(1, 7), 1);
        x.crash(1);
        Due.due("of one DOWN", x.majority(1, 7), 1);
    }

    private static void promise26Till() {
        Due.says(26, "`int till(int n, int what)`: Behind how many of n TICKS (1 to 200) there is a LEADER"
                + " NOW first (what 0), an INDEX more is HELD FOR SURE first (what 1),");
        TermLog x = new TermLog();
        Due.due("a LEADER in 200", x.till(200, 0), 12);
        Due.due("a LEADER in 12", x.till(12, 0), 12);
        Due.due("HELD in 200", x.till(200, 1), 14);
        Due.due("HELD in 14", x.till(14, 1), 14);
        Due.due("THE TICK", x.count(0), 0);
        x.ticks(12);
        Due.due("an INDEX more in 2", x.till(2, 1), 2);

        Due.says(26, "all UP NODES have COMMIT no less than the greatest INDEX HELD FOR SURE (what 2; none is"
                + " UP: so, too);");
        x = Due.settled(7);
        for (int n = 3; n < 7; n++) x.crash(n);
        Due.quiet(x);
        Due.due("all have it", x.till(20, 2), 0);
        x.write(0, 0, 0);
        Due.due("all have what is HELD", x.till(20, 2), 0);
        x.ticks(2);
        Due.due("1 knows not yet", x.nodeIs(1, 5), 1);
        int till = x.till(20, 2);
        Due.due("in some TICKS", till > 0, true);
        if (till > 1) x.ticks(till - 1);
        Due.due("not before", Math.min(x.nodeIs(1, 5), x.nodeIs(2, 5)), 1);
        x.ticks(1);
        Due.due("then", Math.min(x.nodeIs(1, 5), x.nodeIs(2, 5)), 2);
        x.write(0, 0, 0);
        x.ticks(2);
        Due.due("1 and 2 know not yet", x.till(1, 2) != 0, true);
        x.crash(1);
        x.crash(2);
        Due.due("of UP ones alone", x.till(1, 2), 0);
        for (int n = 1; n < 3; n++) x.comeUp(n);
        x.ticks(9);
        Due.due("all have it again", x.till(1, 2), 0);
        for (int n = 0; n < 3; n++) {
            x.crash(n);
            x.comeUp(n);
            Due.due(n + " alone has it not", x.till(1, 2) != 0, true);
            Due.tickTill(x, y -> y.till(1, 2) == 0);
        }
        for (int n = 1; n < 3; n++) x.crash(n);
        x.crash(0);
        Due.due("none is UP", x.till(1, 2), 0);
        Due.due("none HELD yet: all have it", new TermLog().till(1, 2), 0);
        x = Due.settled(7);
        Due.due("no MEMBERS never have it", x.till(200, 2), -2);

        Due.says(26, "0: it is so now; -2: not in these; NONE: no such ones.");
        Due.due("a LEADER now", x.till(1, 0), 0);
        Due.due("no INDEX more", x.till(200, 1), -2);
        x = new TermLog();
        Due.due("no LEADER in 11", x.till(11, 0), -2);
        Due.due("none HELD in 13", x.till(13, 1), -2);
        for (int what : new int[] {-1, 3, 4, MAX, MIN}) {
            Due.due("what " + what, x.till(1, what), -1);
        }
        for (int n : NO_COUNTS) {
            for (int what = 0; what < 3; what++) Due.due("till(" + n + ")", x.till(n, what), -1);
        }
        for (int n = 0; n < 7; n++) x.crash(n);
        Due.due("no LEADER ever", x.till(200, 0), -2);
    }

    private static void promise27Seed() {
        Due.says(27, "`boolean seed(int x)`: THE SEED (0 to 65535; X, too): true; false: no such number.");
        TermLog x = new TermLog();
        Due.due("0", x.seed(0), true);
        Due.due("X", x.count(6), 0);
        x.crash(0);
        x.comeUp(0);
        Due.due("X behind a DRAW", x.count(6), 13849);
        Due.due("TIMER", x.nodeIs(0, 7), 8 + 9);
        Due.due("65535", x.seed(65535), true);
        Due.due("X is 65535", x.count(6), 65535);
        x.found(7);
        Due.due("seven DRAWS", x.count(6), Due.xBehind(65535, 7));
        for (int no : new int[] {65536, 65537, -1, MAX, MIN}) {
            Due.due("seed(" + no + ")", x.seed(no), false);
        }
        Due.due("X stays", x.count(6), Due.xBehind(65535, 7));
    }

    private static void promise28And29KeepUndo() {
        Due.says(28, "`int keep()`: KEPT: THE TICK.");
        TermLog x = new TermLog();
        Due.due("at 0", x.keep(), 0);
        x.ticks(7);
        Due.due("at 7", x.keep(), 7);

        Due.says(29, "`boolean undo()`: UNDONE: true; false: none was KEPT.");
        x.ticks(3);
        Due.due("undo", x.undo(), true);
        Due.due("THE TICK", x.count(0), 7);
        Due.due("undo at once again", x.undo(), true);
        x = new TermLog();
        x.ticks(5);
        Due.due("none KEPT", x.undo(), false);
        Due.due("THE TICK stays", x.count(0), 5);
        x.found(3);
        Due.due("none KEPT yet", x.undo(), false);
    }

    private static void promise30Check() {
        Due.says(30, "`int check(int n)`: CHECK by the first n bytes of the tape (0 to 8; empty then): NONE:"
                + " right; else the first that is not so;");
        TermLog x = new TermLog();
        x.feed(0, 1, 0, 0, 0);
        Due.due("check(7): the eighth is not asked", x.check(7), -1);
        Due.due("empty then", x.count(5), 0);
        x.feed(0, 1, 0, 0, 0);
        Due.due("check(8)", x.check(8), 7);
        Due.due("empty then, wrong", x.count(5), 0);
        x.feed(1 << 24, 1, 0, 0, 0);
        Due.due("the first that is not so", x.check(8), 0);
        x.feed(-1, -1, 0, 0, 0);
        Due.due("check(0)", x.check(0), -1);
        Due.due("empty then, of none asked", x.count(5), 0);
        Due.due("0 bytes of none", x.check(0), -1);

        Due.says(30, "-2: no such n, it has not so many (the tape stays).");
        Due.due("1 byte of none", x.check(1), -2);
        Due.due("8 bytes of none", x.check(8), -2);
        x.feed(0, 0, 0, 0, 0);
        for (int n : new int[] {-1, 9, 10, 20, 21, MAX, MIN}) {
            Due.due("check(" + n + ")", x.check(n), -2);
            Due.due("the tape stays", x.count(5), 20);
        }
    }

    private static void promise31Count() {
        Due.says(31, "`int count(int what)`: 0 THE TICK, 1 UP ones (bits), 2 MESSAGES on their way, 3 the"
                + " greatest INDEX HELD FOR SURE, 4 RULES, 5 bytes of the tape, 6 X, 7 READS asked,");
        TermLog x = Due.settled(31);
        int tick = x.count(0);
        Due.quiet(x);
        x.ticks(2);
        Due.due("THE TICK", x.count(0) > tick, true);
        Due.quiet(x);
        x.write(0, 0, 0);
        x.ask(0, 0);
        x.crash(6);
        x.cut(1, 2, true);
        x.cut(5, 6, true);
        x.feed(1, 1, 1, 1, 1);
        x.seed(4321);
        int[] all = {x.count(0), 63, 8, 1, 2, 20, 4321, 1, 0, 2};
        for (int what = 0; what < 10; what++) Due.due("count " + what, x.count(what), all[what]);
        x.ticks(2);
        Due.due("HELD", x.count(3), 2);
        Due.due("none HELD", new TermLog().count(3), 0);

        Due.says(31, "9 links cut. NONE for others.");
        Due.due("two", x.count(9), 2);
        x.cut(2, 1, false);
        Due.due("one", x.count(9), 1);
        for (int what : new int[] {-1, 10, 11, MAX, MIN}) {
            Due.due("count " + what, x.count(what), -1);
        }
        lostMessages();
    }

    /** Five LEADERS, each for itself, of which each loses six MESSAGES every third TICK. */
    private static void lostMessages() {
        Due.says(31, "8 lost MESSAGES so far (since FOUNDED; 99999 at most),");
        TermLog x = Due.ledByZero(127);
        for (int n = 1; n <= 3; n++) leadWithout(x, n);
        x.change(3, 120);
        x.ticks(12);
        Due.due("3 with 4, 5, 6", x.nodeIs(3, 8) + x.nodeIs(3, 9), 120);
        Due.law(x, "e40(f=f);x(f=f)");
        Due.due("3 and all, but none hears", x.change(3, 127) > 0, true);
        leadWithout(x, 4);
        x.ticks(6);
        Due.law(x, "e4(f=f);x(f=f)");
        Due.due("4 and all, but none hears", x.change(4, 127) > 0, true);
        for (int n = 0; n < 5; n++) Due.due("a LEADER", x.nodeIs(n, 3), 2);
        for (int i = 0; i < 49 && x.count(8) < 97000; i++) x.ticks(200);
        for (int i = 0; i < 49 && x.count(8) < 99700; i++) x.ticks(20);
        for (int i = 0; i < 49 && x.count(8) < 99970; i++) x.ticks(1);
        int lost = x.count(8);
        Due.due("not yet 99999", lost >= 99970 && lost < 99998, true);
        Due.law(x, "e40(f=f);x(t=1)");
        for (int i = 1; i <= 35; i++) {
            x.write(0, 0, 0);
            Due.due("one more", x.count(8), Math.min(lost + i, 99999));
        }
        x.found(1);
        Due.due("none since FOUNDED", x.count(8), 0);
    }

    /** A NODE LEADS, while those below it neither hear nor are heard. */
    private static void leadWithout(TermLog x, int n) {
        Due.law(x, "e4(f=" + n + ");e40(f=f);x(f<" + n + "|t<" + n + ")");
        x.crash(n);
        x.comeUp(n);
        x.ticks(20);
        Due.due("LEADER NOW", x.leaderNow(), n);
    }
}
