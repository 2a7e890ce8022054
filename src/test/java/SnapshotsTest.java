/** 'Terms', part 2, KINDS 4 and 5, sentence by sentence: SNAPSHOTS that are sent. */
public final class SnapshotsTest {
    private SnapshotsTest() {}

    public static void main(String[] args) {
        termBelow();
        termBelowAtItsLeader();
        noMoreThanCommit();
        oneMoreThanCommit();
        follows();
        entryIsThere();
        entryOfAnotherTerm();
        asTold();
        answered();
        atLeast();
        sendsOnAndAnswers();
        Due.end("SnapshotsTest");
    }

    /** 0 LEADS with 2, its BASE is 2; 1 is DOWN and has ENTRY 1 alone. */
    private static TermLog oneLags() {
        TermLog x = Due.settled(7);
        x.ticks(3);
        Due.quiet(x);
        x.crash(1);
        x.write(0, 3, 30);
        x.ticks(5);
        x.compact(0);
        Due.quiet(x);
        Due.due("BASE", x.nodeIs(0, 6), 2);
        Due.due("NEXT of 1", x.about(0, 1, 0), 2);
        return x;
    }

    private static void termBelow() {
        Due.says(0, "4: is its TERM below the receiver's: answer KIND 5: 0, 0.");
        TermLog x = oneLags();
        Due.law(x, "e4(f=1);e40(f=f);d9(k=4);x(k=0)");
        x.ask(0, 0);
        x.seed(Due.seedFor(0));
        x.comeUp(1);
        Due.law(x, "e40(f=f);d9(k=4);x(k=0)");
        x.ticks(9);
        Due.due("1 is a CANDIDATE of TERM 2", x.nodeIs(1, 3) * 10 + x.nodeIs(1, 1), 12);
        int timer = x.nodeIs(1, 7);
        x.ticks(1);
        Due.due("it is not taken", x.nodeIs(1, 6), 0);
        Due.due("ROLE stays", x.nodeIs(1, 3), 1);
        Due.due("LEADER KNOWN stays", x.nodeIs(1, 10), -2);
        Due.due("TIMER goes on", x.nodeIs(1, 7), timer - 1);
        int at = Due.find(x, 1, 0, 5);
        Due.due("it answers", at >= 0, true);
        Due.due("of its own TERM", x.message(at, 3), 2);
        x.ticks(1);
        Due.due("0 hears of the TERM", x.nodeIs(0, 1), 2);
        Due.due("and LEADS no more", x.nodeIs(0, 3), 0);
    }

    /** 0 LEADS TERM 2 when 1 answers what 0 had sent at TERM 1: MATCH and HEARD are none. */
    private static void termBelowAtItsLeader() {
        Due.says(0, "answer KIND 5: 0, 0.");
        TermLog x = oneLags();
        int t = x.count(0);
        Due.law(x, "e40(f=f)");
        x.comeUp(1);
        Due.law(x, "e4(f=0);e40(f=f);d9(n=1);x(k=3&n=2)");
        x.ask(0, 0);
        x.crash(0);
        x.seed(Due.seedFor(0));
        x.comeUp(0);
        x.ticks(9);
        Due.due("0 LEADS TERM 2", x.leaderNow() + 10 * x.nodeIs(0, 1), 20);
        Due.due("what is late is due", x.message(0, 2) * 100 + x.message(0, 4), 400 + t + 10);
        Due.due("NEXT of 1", x.about(0, 1, 0), 3);
        x.ticks(1);
        Due.due("1 took it not", x.nodeIs(1, 6), 0);
        x.ticks(1);
        Due.due("MATCH: 0", x.about(0, 1, 1), 0);
        Due.due("NEXT is MATCH + 1", x.about(0, 1, 0), 1);
        Due.due("HEARD: 0", x.about(0, 1, 2), 0);
        Due.due("it SENDS ON the SNAPSHOT", Due.find(x, 0, 1, 4) >= 0, true);
        // MATCH is LAST by then: nothing is sent on
        x = unheard(2, 6);
        x.compact(0);
        Due.quiet(x);
        t = x.count(0);
        Due.law(x, "e4(f=0);e40(f=f);d9(n=1)");
        x.ask(0, 0);
        x.crash(0);
        x.seed(Due.seedFor(0));
        x.comeUp(0);
        x.ticks(10);
        Due.due("it answers", x.message(Due.find(x, 1, 0, 5), 3), 2);
        Due.due("MATCH is LAST", x.about(0, 1, 1) * 10 + x.nodeIs(0, 4), 44);
        x.ticks(1);
        Due.due("NEXT is LAST + 1", x.about(0, 1, 0), 5);
        int toIt = 0;
        for (int i = 0; i < x.count(2); i++) toIt += x.message(i, 1) == 1 ? 1 : 0;
        Due.due("HEART alone sends", toIt, 1);
    }

    /** 1 has ENTRIES 2 to 5 and knows that they are HELD; its answers were lost. */
    private static TermLog unheard(int writes, int ticks) {
        TermLog x = Due.settled(7);
        Due.quiet(x);
        Due.law(x, "e40(f=f);x(f=1)");
        for (int i = 1; i <= writes; i++) x.write(0, 3, 30 + i);
        x.ticks(ticks);
        Due.due("NEXT of 1", x.about(0, 1, 0), 2);
        return x;
    }

    private static void noMoreThanCommit() {
        Due.says(0, "is the INDEX told no more than COMMIT: answer KIND 5: COMMIT, ROUND.");
        // INDEX 3, COMMIT 3
        TermLog x = unheard(2, 6);
        x.compact(0);
        Due.due("BASE of 0", x.nodeIs(0, 6), 3);
        Due.due("COMMIT of 1", x.nodeIs(1, 5), 3);
        Due.quiet(x);
        Due.law(x, "e40(f=f);d9(k=2)");
        x.ask(0, 0);
        Due.due("KIND 4", Due.way(x), "014 022 ");
        int round = x.nodeIs(0, 12);
        x.ticks(1);
        Due.due("BASE of 1 stays", x.nodeIs(1, 6), 0);
        Due.due("its ENTRIES stay", x.entryAt(1, 2, 3), 31);
        x.ticks(1);
        Due.due("COMMIT is answered", x.about(0, 1, 1), 3);
        Due.due("ROUND is answered", x.about(0, 1, 2), round);
        // INDEX 2, COMMIT 5: COMMIT is answered, not the INDEX
        x = oneLags();
        Due.law(x, "e40(f=f);d9(k=4);x(k=3&f=1);x(k=5)");
        x.comeUp(1);
        x.ask(0, 0);
        Due.law(x, "e40(f=f);x(k=3&f=1);x(k=5)");
        x.ask(0, 0);
        x.ticks(1);
        Due.due("by the second one BASE is 2", x.nodeIs(1, 6), 2);
        Due.law(x, "e40(f=f)");
        for (int i = 0; i < 3; i++) x.write(0, 3, i);
        x.ticks(7);
        Due.due("COMMIT of 1", x.nodeIs(1, 5), 5);
        Due.due("the first one is due", x.message(0, 2) * 100 + x.message(0, 4), 400 + x.count(0) + 2);
        Due.law(x, "e40(f=f);x(k=2)");
        x.ticks(1);
        x.crash(2);
        x.ticks(1);
        Due.due("LAST of 1 stays", x.nodeIs(1, 4), 5);
        Due.due("BASE of 1 stays", x.nodeIs(1, 6), 2);
        Due.due("KEY stays", x.keyOf(1, 3), 2);
    }

    private static void oneMoreThanCommit() {
        Due.says(0, "Else FOLLOWER, LEADER KNOWN the sender, it SETS TIMER; is the INDEX told no more"
                + " than COMMIT: answer KIND 5: COMMIT, ROUND.");
        // INDEX 3, COMMIT 2: 1 does not hear that 3 is HELD
        TermLog x = unheard(1, 6);
        Due.quiet(x);
        x.write(0, 3, 33);
        x.ticks(1);
        Due.law(x, "e40(f=f);x(f=1);x(t=1)");
        x.ticks(2);
        x.compact(0);
        Due.quiet(x);
        Due.due("BASE of 0", x.nodeIs(0, 6), 3);
        Due.due("COMMIT of 1", x.nodeIs(1, 5), 2);
        Due.due("LAST of 1", x.nodeIs(1, 4), 3);
        Due.law(x, "e20-w(f=f)");
        x.ask(0, 0);
        Due.due("KIND 4", Due.way(x), "014 022 ");
        x.ticks(1);
        Due.due("BASE of 1", x.nodeIs(1, 6), 3);
        Due.due("COMMIT of 1 then", x.nodeIs(1, 5), 3);
        Due.due("KEY of its SNAPSHOT", x.keyOf(1, 13), 33);
        Due.due("TIMER is set", x.nodeIs(1, 7), 19);
    }

    private static void follows() {
        Due.says(0, "Else FOLLOWER, LEADER KNOWN the sender, it SETS TIMER;");
        TermLog x = oneLags();
        Due.law(x, "e30-w(f=f)");
        x.comeUp(1);
        Due.law(x, "e20-w(f=f)");
        Due.due("LEADER KNOWN before", x.nodeIs(1, 10), -2);
        Due.due("TIMER before", x.nodeIs(1, 7), 30);
        x.ask(0, 0);
        x.ticks(1);
        Due.due("ROLE", x.nodeIs(1, 3), 0);
        Due.due("LEADER KNOWN", x.nodeIs(1, 10), 0);
        Due.due("TIMER", x.nodeIs(1, 7), 19);
        // though it is not taken
        x = unheard(2, 6);
        x.compact(0);
        Due.quiet(x);
        Due.law(x, "e20-w(f=f)");
        x.ask(0, 0);
        x.ticks(1);
        Due.due("not taken", x.nodeIs(1, 6), 0);
        Due.due("TIMER, not taken", x.nodeIs(1, 7), 19);
    }

    private static void entryIsThere() {
        Due.says(0, "Else, is there an ENTRY at that INDEX with that TERM, the ENTRIES up to it go,");
        TermLog x = Due.settled(7);
        Due.quiet(x);
        Due.law(x, "e40(f=f);x(f=1&k=3)");
        x.write(0, 0, 2);
        x.write(0, 0, 3);
        Due.law(x, "e40(f=f);x(f=1&k=3);x(t=2)");
        x.write(0, 0, 4);
        x.write(0, 0, 5);
        x.ticks(2);
        Due.due("1 has four more", x.nodeIs(1, 4), 5);
        Due.due("1 knows of none HELD", x.nodeIs(1, 5), 1);
        Due.due("0 knows of two", x.nodeIs(0, 5), 3);
        Due.due("0 knows not of 1", x.about(0, 1, 0), 2);
        x.compact(0);
        Due.tickTill(x, y -> y.nodeIs(1, 6) == 3);
        Due.due("what is behind it stays", x.nodeIs(1, 4), 5);
        Due.due("an ENTRY behind it", x.entryAt(1, 4, 3), 4);
        Due.due("the last one", x.entryAt(1, 5, 3), 5);
        Due.due("the ENTRY at it goes", x.entryAt(1, 3, 0), -2);
        Due.due("COMMIT", x.nodeIs(1, 5), 3);
        Due.due("KEY", x.keyOf(1, 0), 3);
        Due.due("TERM of LAST", x.nodeIs(1, 13), 1);
    }

    /** 0 has ENTRIES of TERM 1 where 1 has a SNAPSHOT of TERM 2. */
    private static void entryOfAnotherTerm() {
        Due.says(0, "the ENTRIES up to it go, else all do;");
        TermLog x = Due.settled(7);
        Due.quiet(x);
        x.cut(0, 1, true);
        x.cut(0, 2, true);
        for (int i = 2; i < 8; i++) x.write(0, 0, i);
        Due.makeLead(x, 1);
        Due.law(x, "e40(f=f)");
        x.write(1, 1, 11);
        Due.tickTill(x, y -> y.nodeIs(1, 5) == 3);
        x.compact(1);
        Due.due("LAST of 0", x.nodeIs(0, 4), 7);
        Due.due("TERM at that INDEX", x.entryAt(0, 3, 0), 1);
        x.ticks(1);
        x.cut(0, 1, false);
        Due.tickTill(x, y -> y.nodeIs(0, 6) == 3);
        Due.due("all go", x.nodeIs(0, 4), 3);
        Due.due("TERM of LAST", x.nodeIs(0, 13), 2);
        Due.due("KEY 0", x.keyOf(0, 0), 0);
        Due.due("KEY 1", x.keyOf(0, 1), 11);
        // no ENTRY at that INDEX: those below it go, too
        x = oneLags();
        x.comeUp(1);
        Due.due("ENTRY 1", x.entryAt(1, 1, 0), 1);
        Due.law(x, "e40(f=f)");
        x.ask(0, 0);
        x.ticks(1);
        Due.due("ENTRY 1 goes", x.entryAt(1, 1, 0), -2);
        Due.due("LAST is BASE", x.nodeIs(1, 4) * 10 + x.nodeIs(1, 6), 22);
    }

    private static void asTold() {
        Due.says(0, "SNAPSHOT, COMMIT, KEYS as told (nothing is SEEN HELD by that); answer KIND 5: that"
                + " INDEX, ROUND.");
        TermLog x = Due.settled(7);
        Due.quiet(x);
        x.write(0, 6, 60);
        x.ticks(6);
        Due.due("KEY 6 of 1", x.keyOf(1, 6), 60);
        x.cut(0, 1, true);
        x.write(0, 6, 61);
        x.write(0, 7, 70);
        x.change(0, 15);
        x.ticks(12);
        Due.due("COMMIT of 0", x.nodeIs(0, 5), 6);
        x.compact(0);
        x.write(0, 7, 71);
        x.ticks(4);
        Due.quiet(x);
        Due.due("COMMIT of 0 then", x.nodeIs(0, 5), 7);
        Due.law(x, "e40(f=f)");
        x.cut(0, 1, false);
        int held = x.count(3);
        x.ask(0, 0);
        int round = x.nodeIs(0, 12);
        Due.due("HELD in that TICK", x.ticks(1), 0);
        Due.due("HELD", x.count(3), held);
        Due.due("BASE", x.nodeIs(1, 6), 6);
        Due.due("TERM of it", x.nodeIs(1, 13), 1);
        Due.due("CONFIG", x.nodeIs(1, 8), 15);
        Due.due("not joint", x.nodeIs(1, 9), 0);
        Due.due("COMMIT", x.nodeIs(1, 5), 6);
        int[] keys = {0, 0, 0, 0, 0, 0, 61, 70};
        for (int key = 0; key < 8; key++) {
            Due.due("KEY " + key, x.keyOf(1, key), keys[key]);
            Due.due("KEY of its SNAPSHOT " + key, x.keyOf(1, 10 + key), keys[key]);
        }
        Due.due("it answers", Due.find(x, 1, 0, 5) >= 0, true);
        x.ticks(1);
        Due.due("that INDEX", x.about(0, 1, 1), 6);
        Due.due("ROUND", x.about(0, 1, 2), round);
    }

    private static void answered() {
        Due.says(0, "5: of a LEADER whose TERM it is: HEARD as in 3; MATCH of the sender is at least the"
                + " INDEX told; NEXT is MATCH + 1; it HOLDS;");
        // an answer of TERM 1 comes to the LEADER of TERM 2
        TermLog x = oneLags();
        Due.law(x, "e40(f=f)");
        x.comeUp(1);
        Due.law(x, "e4(f=0);e40(f=f);d9(k=5&n=1);x(k=2&n=2&t=1)");
        x.ask(0, 0);
        x.ticks(1);
        Due.due("1 took it", x.nodeIs(1, 6), 2);
        x.crash(0);
        x.seed(Due.seedFor(0));
        x.comeUp(0);
        x.ticks(9);
        Due.due("0 LEADS TERM 2", x.leaderNow() + 10 * x.nodeIs(0, 1), 20);
        int at = Due.find(x, 1, 0, 5);
        Due.due("of TERM 1", x.message(at, 3), 1);
        Due.due("due next", x.message(at, 4), x.count(0) + 1);
        x.ticks(1);
        Due.due("MATCH", x.about(0, 1, 1), 0);
        Due.due("HEARD", x.about(0, 1, 2), 0);
        Due.due("NEXT", x.about(0, 1, 0), 3);
        // of its own TERM
        x = oneLags();
        Due.law(x, "e40(f=f)");
        x.comeUp(1);
        x.ask(0, 0);
        int round = x.nodeIs(0, 12);
        Due.due("HEARD before", x.about(0, 1, 2) < round, true);
        x.ticks(2);
        Due.due("HEARD then", x.about(0, 1, 2), round);
        Due.due("MATCH then", x.about(0, 1, 1), 2);
        Due.due("NEXT then", x.about(0, 1, 0), 3);
    }

    /** An old answer that comes late lessens nothing. */
    private static void atLeast() {
        Due.says(0, "5: of a LEADER whose TERM it is: HEARD as in 3; MATCH of the sender is at least the"
                + " INDEX told; NEXT is MATCH + 1;");
        TermLog x = oneLags();
        Due.law(x, "e40(f=f);d6(k=5)");
        x.comeUp(1);
        x.ask(0, 0);
        x.ticks(1);
        Due.law(x, "e40(f=f)");
        x.ask(0, 0);
        int round = x.nodeIs(0, 12);
        x.write(0, 3, 3);
        x.ticks(6);
        Due.due("MATCH", x.about(0, 1, 1), 3);
        Due.due("HEARD", x.about(0, 1, 2) >= round, true);
        int heard = x.about(0, 1, 2);
        Due.due("an old one is due", x.message(Due.find(x, 1, 0, 5), 4), x.count(0) + 1);
        Due.law(x, "e40(f=f);x(k=3)");
        x.crash(1);
        x.crash(2);
        x.ticks(1);
        Due.due("MATCH stays", x.about(0, 1, 1), 3);
        Due.due("NEXT stays", x.about(0, 1, 0), 4);
        Due.due("HEARD stays", x.about(0, 1, 2) >= heard, true);
    }

    private static void sendsOnAndAnswers() {
        Due.says(0, "MATCH of the sender is at least the INDEX told; NEXT is MATCH + 1; it HOLDS; is it"
                + " LEADER still and NEXT no more than LAST, it SENDS ON to it. Then it ANSWERS. HOLDS");
        TermLog x = oneLags();
        Due.law(x, "e40(f=f)");
        x.comeUp(1);
        x.crash(2);
        x.ask(0, 3);
        int read = x.count(7) - 1;
        x.ticks(1);
        Due.due("open", x.readIs(read, 0), 0);
        Due.law(x, "e40(f=f);d9(k=2)");
        x.ticks(1);
        Due.due("answered", x.readIs(read, 0), 1);
        Due.due("its value", x.readIs(read, 1), 30);
        Due.due("NEXT is LAST + 1: nothing is sent on", Due.find(x, 0, 1, 2), -1);
        x = oneLags();
        Due.law(x, "e40(f=f)");
        x.comeUp(1);
        x.write(0, 3, 31);
        x.ticks(1);
        Due.law(x, "e40(f=f);d9(k=2)");
        x.ticks(1);
        Due.due("NEXT is LAST", x.about(0, 1, 0) * 10 + x.nodeIs(0, 4), 33);
        int at = Due.find(x, 0, 1, 2);
        Due.due("it SENDS ON", at >= 0 && x.message(at, 5) == 1, true);
    }
}
