/** 'Terms', from FOUNDED on, sentence by sentence: DRAWS, what is tried, kept, checked. */
public final class FoundTest {
    private FoundTest() {}

    public static void main(String[] args) {
        foundedAnew();
        whatStays();
        draws();
        atFirst();
        tried();
        triedWhole();
        couldWin();
        grantsByTerm();
        grantsByVote();
        grantsAt999();
        whoGrants();
        promised();
        kept();
        checked();
        checkedOfLikeOnes();
        none();
        Due.end("FoundTest");
    }

    /** Much has gone on: TICKS, MESSAGES, READS, a cut link, lost MESSAGES, one DOWN. */
    private static TermLog busy() {
        TermLog x = Due.settled(31);
        x.keep();
        x.write(0, 1, 9);
        x.ask(0, 1);
        x.ticks(4);
        x.crash(2);
        x.cut(0, 1, true);
        x.compact(0);
        x.write(0, 2, 8);
        x.ticks(1);
        Due.law(x, "e10+f(f=f)");
        x.feed(1, 2, 3, 4, 5);
        Due.due("lost", x.count(8) > 0, true);
        return x;
    }

    private static void foundedAnew() {
        Due.says(0, "FOUNDED anew by some NODES (bits): all is as at first (TICK 0, no MESSAGES, no READS,"
                + " nothing HELD, nothing BROKEN, no MESSAGE lost, all links whole, all UP), CONFIG"
                + " these, none joint; each NODE, by numbers, SETS TIMER.");
        TermLog x = busy();
        int before = x.count(6);
        Due.due("found", x.found(42), true);
        int[] counts = {0, 127, 0, 0, 1, 20, Due.xBehind(before, 7), 0, 0, 0};
        for (int what = 0; what < 10; what++) {
            Due.due("count " + what, x.count(what), counts[what]);
        }
        for (int n = 0; n < 7; n++) {
            int timer = 10 + n + Due.xBehind(before, n + 1) % 10;
            int[] facts = {1, 0, -2, 0, 0, 0, 0, timer, 42, 0, -2, 0, 0, 0};
            for (int what = 0; what < 14; what++) {
                Due.due("nodeIs " + n + " " + what, x.nodeIs(n, what), facts[what]);
            }
            for (int key = 0; key < 8; key++) {
                Due.due("KEY " + key, x.keyOf(n, key) + x.keyOf(n, 10 + key), 0);
            }
            Due.due("no ENTRY", x.entryAt(n, 1, 0), -2);
        }
        Due.due("nothing HELD", x.heldAt(1, 0), -2);
        Due.due("nothing BROKEN", x.broken(0), 0);
        Due.due("no MESSAGE", x.message(0, 0), -4);
        Due.due("no READ", x.readIs(0, 0), -1);
        Due.due("no LEADER", x.leaderNow(), -2);
        // a SNAPSHOT that is joint is none then
        x = Due.settled(7);
        x.change(0, 15);
        Due.tickTill(x, y -> y.nodeIs(1, 5) == 2);
        Due.due("compact", x.compact(1), true);
        x.found(7);
        Due.due("none joint", x.nodeIs(1, 8) * 10 + x.nodeIs(1, 9), 70);
        // a TERM led before is as if it had no LEADER
        x = Due.settled(1);
        Due.law(x, "e4(f=1);e40(f=f)");
        x.found(2);
        x.ticks(20);
        Due.due("another LEADER of TERM 1", x.leaderNow(), 1);
        Due.due("nothing BROKEN", x.broken(0), 0);
    }

    private static void whatStays() {
        Due.says(0, "THE LAW, X, the tape, what was KEPT stay.");
        TermLog x = busy();
        int before = x.count(6);
        x.found(3);
        Due.due("RULES", x.count(4), 1);
        Due.due("the LAW is asked", x.nodeIs(6, 7) - Due.xBehind(before, 7) % 10, 16);
        Due.due("X goes on", x.count(6), Due.xBehind(before, 7));
        Due.due("the tape", x.count(5), 20);
        x.undo();
        Due.due("what was KEPT", x.nodeIs(0, 8) * 10 + x.nodeIs(0, 5), 311);
        Due.due("THE TICK", x.count(0) > 0, true);
    }

    private static void draws() {
        Due.says(0, "DRAWS: X = (25173 X + 13849) modulo 65536 (X is THE SEED at first, 1): X modulo 10.");
        TermLog x = new TermLog();
        int[] some = {0, 1, 2, 65535, 65534, 51687, 2049, 32768, 32767};
        for (int from : some) {
            x.crash(3);
            x.seed(from);
            x.comeUp(3);
            long behind = (25173L * from + 13849L) % 65536L;
            Due.due("X behind " + from, x.count(6), behind);
            Due.due("the DRAW behind " + from, x.nodeIs(3, 7), 8 + behind % 10);
        }
        x.crash(3);
        x.seed(51687);
        x.comeUp(3);
        Due.due("X is 65536 by one DRAW: 0", Due.xBehind(0, 1), 13849);
        // all 65536 come, each once: the last is the first again
        int y = 1;
        int steps = 0;
        do {
            y = Due.xBehind(y, 1);
            steps++;
        } while (y != 1 && steps < 70000);
        Due.due("all come", steps, 65536);
        x.seed(1);
        x.found(7);
        Due.due("seven of them", x.count(6), 65216);
    }

    private static void atFirst() {
        Due.says(0, "At first it is FOUNDED by 0, 1, 2 (seven DRAWS from SEED 1).");
        TermLog x = new TermLog();
        Due.due("X", x.count(6), Due.xBehind(1, 7));
        for (int n = 0; n < 7; n++) {
            Due.due("CONFIG of " + n, x.nodeIs(n, 8) * 10 + x.nodeIs(n, 9), 70);
            Due.due("TIMER of " + n, x.nodeIs(n, 7), 8 + Due.xBehind(1, n + 1) % 10);
        }
    }

    private static void tried() {
        Due.says(0, "TRIED are n TICKS by the DRAWS that will come (nothing is changed).");
        String seen = Due.seen(lossy());
        for (int n = 1; n < 90; n += 11) {
            TermLog x = lossy();
            int[] ahead = new int[24];
            for (int what = 0; what < 3; what++) ahead[what] = x.tried(n, what);
            for (int k = 0; k < 7; k++) {
                for (int tens = 1; tens <= 3; tens++) ahead[3 * k + tens + 2] = x.tried(n, 10 * tens + k);
            }
            Due.due("nothing is changed", Due.seen(x), seen);
            x = lossy();
            int held = x.ticks(n);
            Due.due("HELD", ahead[0], held);
            Due.due("LEADER NOW", ahead[1], x.leaderNow());
            Due.due("on their way", ahead[2], x.count(2));
            for (int k = 0; k < 7; k++) {
                if (k != 4) Due.due("COMMIT", ahead[3 * k + 3], x.nodeIs(k, 5));
                Due.due("TERM", ahead[3 * k + 4], x.nodeIs(k, 1));
                if (k != 4) Due.due("ROLE", ahead[3 * k + 5], x.nodeIs(k, 3));
            }
        }
    }

    /** What is tried of MESSAGES of all KINDS, ENTRIES, SNAPSHOTS, READS comes so. */
    private static void triedWhole() {
        Due.says(0, "by the DRAWS that will come (nothing is changed).");
        for (int run = 0; run < 40; run++) {
            TermLog x = stirred(run);
            TermLog y = stirred(run);
            for (int i = 0; i < 3; i++) {
                int n = 1 + (run + 7 * i) % 25;
                x.tried(200, 0);
                for (int k = 0; k < 5; k++) {
                    int commit = x.tried(n, 10 + k);
                    int term = x.tried(n, 20 + k);
                    int role = x.tried(n, 30 + k);
                    if (k == 0) y.ticks(n);
                    Due.due("TERM", term, y.nodeIs(k, 1));
                    if (y.nodeIs(k, 0) == 1) Due.due("COMMIT", commit, y.nodeIs(k, 5));
                    if (y.nodeIs(k, 0) == 1) Due.due("ROLE", role, y.nodeIs(k, 3));
                }
                Due.due("on their way", x.tried(n, 2), y.count(2));
                Due.due("LEADER NOW", x.tried(n, 1), y.leaderNow());
                x.ticks(n);
            }
            Due.due("nothing is changed", Due.seen(x), Due.seen(y));
        }
    }

    /** Under a LAW that asks the DRAWS for all. */
    private static TermLog lossy() {
        TermLog x = Due.settled(31);
        Due.law(x, "lw%3(f=f);dw%4(k=2);e4+w(f=f)");
        x.write(0, 1, 1);
        x.ask(0, 1);
        x.crash(4);
        return x;
    }

    private static void couldWin() {
        Due.says(0, "COULD WIN: whether a NODE, if it stood now (TERM one more) and all UP NODES it is linked"
                + " to heard it at once and were heard, would have a MAJORITY");
        TermLog x = Due.settled(31);
        Due.due("all five", x.couldWin(1, 0), 1);
        x.crash(3);
        x.cut(1, 2, true);
        Due.due("three of five", x.couldWin(1, 0), 1);
        Due.due("0, 1, 4", x.couldWin(1, 1), 19);
        x.cut(1, 4, true);
        Due.due("two of five", x.couldWin(1, 0), 0);
        Due.due("0, 1", x.couldWin(1, 1), 3);
        x.cut(1, 4, false);
        x.cut(0, 4, true);
        Due.due("a link of others", x.couldWin(1, 0), 1);
        x.comeUp(3);
        Due.due("UP again", x.couldWin(1, 1), 27);
        Due.due("a LEADER, too", x.couldWin(0, 1), 15);
        // not by THE LAW, by which none is heard
        Due.law(x, "x(f=f)");
        Due.due("heard at once", x.couldWin(0, 0), 1);
        // half of four is no MAJORITY; a joint one needs both
        x = Due.settled(15);
        x.crash(2);
        x.crash(3);
        Due.due("two of four", x.couldWin(0, 0), 0);
        x.comeUp(3);
        Due.due("three of four", x.couldWin(0, 0), 1);
        x = Due.settled(7);
        x.change(0, 56);
        Due.due("all of both", x.couldWin(0, 0), 1);
        x.crash(3);
        x.crash(4);
        Due.due("not of the new ones", x.couldWin(0, 0), 0);
        x.comeUp(3);
        x.comeUp(4);
        x.crash(1);
        x.crash(2);
        Due.due("not of the old ones", x.couldWin(0, 0), 0);
        x = Due.settled(1);
        Due.due("one alone", x.couldWin(0, 0), 1);
    }

    private static void grantsByTerm() {
        Due.says(0, "(a NODE whose TERM is above that one does not grant; a MEMBER that is UP and linked"
                + " grants as in 0, one whose TERM is below that one as if it had no VOTE; itself does;");
        // 2 stands, heard by none: its TERM is 2, 3, 4, that of 0 and 1 is 1
        TermLog x = Due.settled(7);
        x.ticks(6);
        Due.due("below, with a VOTE", x.couldWin(1, 1), 7);
        Due.law(x, "e4(f=2);e40(f=f);x(f=2);x(t=2)");
        x.crash(2);
        x.comeUp(2);
        Due.tickTill(x, y -> y.nodeIs(2, 1) == 2);
        Due.due("that one, with a VOTE of its own", x.couldWin(1, 1), 3);
        Due.due("2 itself, at TERM 3", x.couldWin(2, 1), 7);
        Due.tickTill(x, y -> y.nodeIs(2, 1) == 3);
        Due.due("above", x.couldWin(1, 1), 3);
        Due.due("above, of 0", x.couldWin(0, 1), 3);
        Due.due("2 itself, at TERM 4", x.couldWin(2, 1), 7);
        // LOGS: as in 0
        x = Due.settled(7);
        Due.quiet(x);
        x.cut(0, 2, true);
        x.write(0, 0, 0);
        x.ticks(2);
        Due.due("2 has one less: none is behind it", x.couldWin(2, 1), 4);
        Due.due("1 has as many as 0, more than 2", x.couldWin(1, 1), 7);
        Due.due("0, but for the link", x.couldWin(0, 1), 3);
    }

    private static void grantsByVote() {
        Due.says(0, "a MEMBER that is UP and linked grants as in 0, one whose TERM is below that one as if"
                + " it had no VOTE;");
        // 3 is left alone at TERM 1; 1 and 2 are called by 0 at TERM 2, in vain: LOGS are ahead
        TermLog x = Due.settled(15);
        Due.quiet(x);
        Due.law(x, "e40(f=f);x(t=0)");
        x.cut(3, 0, true);
        x.crash(0);
        Due.law(x, "e4(f=0);e40(f=f);x(k=1)");
        x.comeUp(0);
        Due.tickTill(x, y -> y.nodeIs(1, 1) == 2);
        x.crash(0);
        x.cut(3, 0, false);
        Due.due("1 voted for 0 at TERM 2", x.nodeIs(1, 2) * 10 + x.nodeIs(1, 1), 2);
        Due.due("3 is at TERM 1", x.nodeIs(3, 1), 1);
        Due.due("at TERM 2 they have a VOTE", x.couldWin(3, 1), 8);
        Due.due("at TERM 3 they have none", x.couldWin(1, 1), 14);
        // 0 and 1 are called at TERM 2 by 2, which is behind; 3 is not
        x = Due.settled(15);
        Due.quiet(x);
        for (int n = 0; n < 4; n++) x.cut(2, n, true);
        x.write(0, 0, 1);
        x.ticks(5);
        Due.law(x, "e4(f=2);e40(f=f)");
        x.crash(2);
        x.comeUp(2);
        Due.tickTill(x, y -> y.nodeIs(2, 1) == 2);
        x.cut(2, 0, false);
        x.cut(2, 1, false);
        x.ticks(1);
        x.cut(2, 3, false);
        Due.due("TERM 2, no VOTE", x.nodeIs(0, 1) * 100 + x.nodeIs(0, 2) * 10 + x.nodeIs(1, 2), 178);
        Due.due("3 is at TERM 1 yet", x.nodeIs(3, 1), 1);
        Due.due("that TERM, no VOTE: they grant", x.couldWin(3, 1), 11);
        Due.due("three of four", x.couldWin(3, 0), 1);
        // by one TERM more they are above that one, and have no VOTE either
        x.cut(2, 3, true);
        Due.law(x, "e4(f=2);e40(f=f);x(f=2&t=3)");
        Due.tickTill(x, y -> y.nodeIs(0, 1) == 3);
        Due.due("TERM 3, no VOTE", x.nodeIs(0, 2) * 10 + x.nodeIs(1, 2), -22);
        Due.due("3 is at TERM 1 still", x.nodeIs(3, 1), 1);
        x.cut(2, 3, false);
        Due.due("above, no VOTE: they do not", x.couldWin(3, 1), 8);
    }

    private static void grantsAt999() {
        Due.says(0, "TERM 999 is as any);");
        TermLog x = new TermLog();
        Due.law(x, "e4(f=0);e40(f=f);x(f=f)");
        x.found(7);
        Due.tickToTerm(x, 0, 998);
        Due.due("TERM 998: 0 could win at 999", x.couldWin(0, 0), 1);
        Due.due("1 could not with 0", x.couldWin(1, 1), 6);
        x.ticks(x.nodeIs(0, 7));
        Due.due("TERM 999", x.nodeIs(0, 1), 999);
        Due.due("0 could win at 1000", x.couldWin(0, 0), 1);
        Due.due("all grant", x.couldWin(0, 1), 7);
    }

    private static void whoGrants() {
        Due.says(0, "who grants (bits, itself, too; MEMBERS of its CONFIG alone).");
        TermLog x = new TermLog();
        x.found(42);
        for (int n = 1; n < 7; n += 2) Due.due("of 42: " + n, x.couldWin(n, 1), 42);
        x.crash(1);
        x.cut(3, 5, true);
        Due.due("itself alone", x.couldWin(3, 1), 8);
        Due.due("no MEMBER, who", x.couldWin(0, 1), -2);
        // joint: old and new ones, those of its own CONFIG, not of the others'
        x = Due.settled(7);
        x.change(0, 24);
        Due.due("old and new ones", x.couldWin(0, 1), 31);
        Due.due("1 does not know yet", x.couldWin(1, 1), 6);
    }

    private static void promised() {
        Due.says(0, "(that is promised).");
        TermLog x = Due.settled(127);
        for (int what = 0; what < 3; what++) Due.due("broken", x.broken(what), 0);
        // unlike ENTRIES of unlike TERMS at the same INDEX are MATCHED all the same
        for (int n = 1; n < 7; n++) x.cut(0, n, true);
        x.write(0, 0, 1);
        Due.makeLead(x, 2);
        Due.due("unlike", x.entryAt(0, 2, 0) != x.entryAt(2, 2, 0), true);
        for (int what = 0; what < 3; what++) Due.due("not broken", x.broken(what), 0);
        x.crash(0);
        x.crash(2);
        for (int what = 0; what < 3; what++) Due.due("not broken, DOWN", x.broken(what), 0);
    }

    private static void kept() {
        Due.says(0, "KEPT is all but THE LAW, the tape; UNDONE: as it was KEPT last.");
        TermLog x = keptBusy();
        int tick = x.keep();
        String seen = Due.seen(x);
        x = keptBusy();
        x.keep();
        x.ticks(20);
        x.write(0, 1, 12);
        x.change(0, 7);
        x.ticks(20);
        x.compact(0);
        x.comeUp(4);
        x.cut(0, 3, false);
        x.crash(1);
        x.seed(77);
        Due.due("undo", x.undo(), true);
        Due.due("as it was KEPT", Due.seen(x), seen);
        // THE LAW and the tape go on
        x = keptBusy();
        x.keep();
        Due.law(x, "e40(f=f);x(f=f);d1(f=f)");
        x.feed(0, 0, 0, 0, 0);
        x.undo();
        Due.due("RULES of now", x.count(4), 3);
        Due.due("the tape of now", x.count(5), 20);
        Due.due("THE TICK", x.count(0), tick);
        // KEPT last, and again
        x.ticks(5);
        Due.due("keep again", x.keep(), tick + 5);
        x.ticks(5);
        x.found(127);
        for (int i = 0; i < 2; i++) {
            Due.due("undo " + i, x.undo(), true);
            Due.due("THE TICK " + i, x.count(0), tick + 5);
            x.ticks(1);
        }
        keptReads();
        keptWhole();
        keptFar();
        keptTerms();
    }

    /** As much as there is room for: INDEX 999, a LOG of 48 ENTRIES, 160 MESSAGES. */
    private static void keptFar() {
        TermLog x = NodesTest.far(999);
        x.keep();
        x.found(1);
        x.undo();
        for (int index = 997; index <= 999; index++) {
            Due.due("HELD at " + index, x.heldAt(index, 3), 1);
        }
        Due.due("LAST", x.nodeIs(0, 4), 999);
        x = NodesTest.leaderOfMany(48);
        x.keep();
        int value = x.entryAt(0, 48, 0);
        x.found(1);
        Due.tickTill(x, y -> y.leaderNow() == 0);
        Due.plan(x, "9(4w007)3w007");
        x.undo();
        Due.due("ENTRY 47", x.entryAt(0, 47, 0), value - 1);
        Due.due("ENTRY 48", x.entryAt(0, 48, 0), value);
        x = Due.settled(15);
        Due.quiet(x);
        Due.law(x, "e40(f=f);d9(f=f)");
        Due.plan(x, "9(4w001)2w001");
        for (int i = 0; i < 16; i++) x.ask(0, i % 8);
        Due.due("160", x.count(2), 160);
        x.keep();
        int due = x.message(159, 4);
        x.found(3);
        x.undo();
        Due.due("160 yet", x.count(2), 160);
        Due.due("the last one", x.message(159, 0) * 100 + x.message(159, 1), 1);
        Due.due("the last one is due", x.message(159, 4), due);
        Due.due("READ 15", x.readIs(15, 3), 7);
    }

    /** Who led a TERM is KEPT: it may be another one each time. */
    private static void keptTerms() {
        TermLog x = Due.settled(7);
        Due.quiet(x);
        x.crash(0);
        x.keep();
        Due.makeLead(x, 1);
        Due.due("TERM 2", x.nodeIs(1, 1), 2);
        x.undo();
        Due.makeLead(x, 2);
        Due.due("TERM 2 by another", x.nodeIs(2, 1), 2);
        Due.due("nothing BROKEN", x.broken(0), 0);
        x.undo();
        Due.law(x, "e4(f=1);e40(f=f)");
        x.crash(1);
        x.comeUp(1);
        Due.due("tried by 1", x.tried(30, 1) * 10 + x.tried(30, 3), 10);
        Due.law(x, "e4(f=2);e40(f=f)");
        x.crash(1);
        x.crash(2);
        x.comeUp(1);
        x.comeUp(2);
        Due.due("tried by 2", x.tried(30, 1) * 10 + x.tried(30, 3), 20);
    }

    /** What is KEPT goes on as what was never KEPT, whatever was done between. */
    private static void keptWhole() {
        for (int run = 0; run < 40; run++) {
            TermLog x = stirred(run);
            for (int n = 1; n < 20; n += 6) x.ticks(n);
            String seen = Due.seen(x);
            x = stirred(run);
            x.keep();
            disturb(x);
            Due.due("undo", x.undo(), true);
            for (int n = 1; n < 20; n += 6) x.ticks(n);
            Due.due("KEPT and UNDONE, " + run, Due.seen(x), seen);
        }
    }

    /** MESSAGES of all KINDS on their way, ENTRIES, SNAPSHOTS, READS. */
    static TermLog stirred(int run) {
        TermLog x = Due.settled(31);
        Due.law(x, "dw%4(f=f);lw%2(k=3);e6+w(f=f)");
        x.seed(run * 997);
        for (int i = 0; i < 6; i++) {
            int n = x.leaderNow();
            for (int w = 0; w < 4; w++) x.write(n, (run + w) % 8, 10 * i + w);
            x.ask(n, run % 8);
            x.ticks(3 + (run + i) % 5);
            x.compact(n);
            x.crash(1 + (run + i) % 4);
            x.comeUp(1 + (run + i + 2) % 4);
            if (run % 3 == 1) x.cut(n, (run + i) % 7, i % 2 == 0);
            if (run % 3 == 2) x.change(n, 31 - (1 << i % 5));
        }
        return x;
    }

    private static void disturb(TermLog x) {
        x.seed(1);
        x.found(127);
        Due.tickTill(x, y -> y.leaderNow() >= 0);
        int n = x.leaderNow();
        for (int i = 0; i < 9; i++) x.write(n, i % 8, 99 - i);
        x.ticks(4);
        x.ask(n, 7);
        x.ask(n, 7);
        x.compact(n);
        x.crash((n + 1) % 7);
        x.cut((n + 2) % 7, (n + 3) % 7, true);
        for (int i = 0; i < 9; i++) x.write(n, i % 8, 89 - i);
        x.ticks(5);
        x.change(n, 127 - (1 << n));
    }

    private static TermLog keptBusy() {
        TermLog x = Due.settled(31);
        x.crash(4);
        x.cut(0, 3, true);
        x.write(0, 1, 11);
        x.ask(0, 1);
        return x;
    }

    private static void keptReads() {
        TermLog x = Due.settled(7);
        x.write(0, 5, 50);
        x.write(0, 6, 60);
        x.ticks(3);
        Due.quiet(x);
        x.ask(0, 5);
        x.ticks(2);
        x.ask(0, 7);
        x.ticks(1);
        x.ask(0, 6);
        x.keep();
        x.found(8);
        Due.tickTill(x, y -> y.leaderNow() == 3);
        for (int key = 1; key < 4; key++) x.ask(3, key);
        Due.due("another READ", x.readIs(0, 2) * 10 + x.readIs(0, 3), 31);
        x.undo();
        int[][] all = {{1, 50, 0, 5}, {0, -2, 0, 7}, {0, -2, 0, 6}};
        for (int i = 0; i < 3; i++) {
            for (int what = 0; what < 4; what++) {
                Due.due("a KEPT READ", x.readIs(i, what), all[i][what]);
            }
        }
        x.ticks(1);
        Due.due("answered by its ROUND", x.readIs(1, 0), 1);
        Due.due("open by its ROUND", x.readIs(2, 0), 0);
        x.ticks(1);
        Due.due("answered by its KEY", x.readIs(2, 1), 60);
        // what was HELD when it was asked, too: not what was HELD later
        x = Due.settled(7);
        Due.quiet(x);
        x.ask(0, 1);
        x.keep();
        x.found(8);
        Due.tickTill(x, y -> y.leaderNow() == 3);
        for (int i = 0; i < 5; i++) x.write(3, 0, i);
        x.ask(3, 0);
        x.undo();
        x.ticks(2);
        Due.due("answered", x.readIs(0, 0), 1);
        Due.due("nothing BROKEN", x.broken(0), 0);
    }

    private static void check(TermLog x, int n, int want, int... keys) {
        int a = keys[0] << 24 | keys[1] << 16 | keys[2] << 8 | keys[3];
        int b = keys[4] << 24 | keys[5] << 16 | keys[6] << 8 | keys[7];
        x.feed(a, b, 0, 0, 0);
        Due.due("check(" + n + ")", x.check(n), want);
        Due.due("check(" + n + "): the tape", x.count(5), 0);
    }

    private static void checked() {
        Due.says(0, "CHECK: KEYS 0 on of the UP NODE of the greatest COMMIT (of like ones the lowest; none"
                + " is UP: 255 each): right, or the first that is not so.");
        TermLog x = Due.settled(7);
        for (int key = 0; key < 8; key++) x.write(0, key, 92 + key);
        Due.tickTill(x, y -> y.nodeIs(0, 5) >= 9);
        check(x, 8, -1, 92, 93, 94, 95, 96, 97, 98, 99);
        check(x, 8, 7, 92, 93, 94, 95, 96, 97, 98, 98);
        check(x, 8, 2, 92, 93, 0, 95, 0, 97, 98, 99);
        check(x, 8, 0, 93, 92, 94, 95, 96, 97, 98, 99);
        check(x, 7, -1, 92, 93, 94, 95, 96, 97, 98, 0);
        check(x, 2, -1, 92, 93, 0, 0, 0, 0, 0, 0);
        check(x, 1, 0, 93, 93, 0, 0, 0, 0, 0, 0);
        check(x, 0, -1, 0, 0, 0, 0, 0, 0, 0, 0);
        check(x, 1, 0, 92 + 128, 0, 0, 0, 0, 0, 0, 0);
        // the greatest COMMIT of those that are UP
        x = Due.settled(7);
        Due.quiet(x);
        x.write(0, 0, 10);
        x.ticks(2);
        Due.due("COMMITS", x.nodeIs(0, 5) * 100 + x.nodeIs(1, 5) * 10 + x.nodeIs(6, 5), 210);
        check(x, 1, -1, 10, 0, 0, 0, 0, 0, 0, 0);
        x.crash(0);
        check(x, 1, -1, 0, 0, 0, 0, 0, 0, 0, 0);
        check(x, 1, 0, 10, 0, 0, 0, 0, 0, 0, 0);
        for (int n = 1; n < 7; n++) x.crash(n);
        check(x, 1, 0, 10, 0, 0, 0, 0, 0, 0, 0);
        check(x, 8, -1, 255, 255, 255, 255, 255, 255, 255, 255);
        check(x, 8, 6, 255, 255, 255, 255, 255, 255, 254, 255);
        check(x, 8, 0, 0, 255, 255, 255, 255, 255, 255, 255);
        // a greater number, a greater COMMIT
        x = new TermLog();
        x.found(64);
        Due.tickTill(x, y -> y.leaderNow() == 6);
        x.write(6, 0, 66);
        check(x, 1, -1, 66, 0, 0, 0, 0, 0, 0, 0);
    }

    private static void checkedOfLikeOnes() {
        Due.says(0, "(of like ones the lowest; none is UP: 255 each)");
        TermLog x = Due.settled(7);
        x.write(0, 0, 5);
        x.ticks(8);
        Inside in = new Inside(x);
        Inside.set(in.node(1), "keys", 0, 6);
        Inside.set(in.node(2), "keys", 0, 7);
        check(x, 1, -1, 5, 0, 0, 0, 0, 0, 0, 0);
        x.crash(0);
        check(x, 1, -1, 6, 0, 0, 0, 0, 0, 0, 0);
    }

    private static void none() {
        Due.says(0, "The constants: `NONE = -1`: There is none.");
        Due.due("NONE", TermLog.NONE, -1);
    }
}
