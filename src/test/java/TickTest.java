/** 'Terms', part 2, up to KIND 1, sentence by sentence: TICKS, who STANDS, who LEADS, VOTES. */
public final class TickTest {
    /** A TIMER of 20, whatever the DRAW is. */
    private static final String TWENTY = "e20-w(f=f)";

    private TickTest() {}

    public static void main(String[] args) {
        tick9999();
        handedOverInOrder();
        hearts();
        timers();
        setsTimer();
        noMemberStands();
        stands();
        term999();
        callsForVotes();
        leads();
        leadsAnew();
        laysNothing();
        sendsToAll();
        sendsOn();
        sendsSnapshots();
        termAbove();
        termAboveByAnyKind();
        granted();
        grantedByTerm();
        answersVotes();
        counted();
        Due.end("TickTest");
    }

    private static void tick9999() {
        Due.says(0, "2. A TICK: THE TICK is one more (9999 at most: then none goes by).");
        TermLog x = Due.settled(7);
        int tick = x.count(0);
        x.ticks(1);
        Due.due("one more", x.count(0), tick + 1);
        x = atTheEnd();
        String seen = Due.seen(x);
        x = atTheEnd();
        Due.due("a TICK more", x.ticks(1), 0);
        Due.due("200 more", x.ticks(200), 0);
        Due.due("a PLAN of a TICK", Due.plan(x, "."), 0);
        Due.due("none goes by", Due.seen(x), seen);
        x = atTheEnd();
        Due.due("tried", x.tried(1, 0), 0);
        Due.due("till", x.till(200, 1), -2);
        Due.due("a write is laid yet", x.write(0, 1, 1), 3);
        Due.due("due never", x.message(x.count(2) - 1, 4), 10000);
        x.found(7);
        Due.due("FOUNDED", x.count(0), 0);
        Due.due("a TICK goes by", Due.plan(x, "."), 1);
    }

    private static TermLog atTheEnd() {
        TermLog x = Due.settled(7);
        for (int i = 0; i < 49; i++) x.ticks(200);
        x.ticks(9998 - x.count(0));
        x.write(0, 1, 1);
        Due.due("THE TICK is 9998", x.count(0), 9998);
        Due.due("of 200 one goes by", x.tried(200, 2), x.tried(1, 2));
        Due.due("of a PLAN of three, too", Due.plan(x, "3."), 1);
        Due.due("THE TICK is 9999", x.count(0), 9999);
        return x;
    }

    private static void handedOverInOrder() {
        Due.says(0, "First each MESSAGE that is due, in the order SENT, is handed over (it is on its way"
                + " no more then, those not handed over yet are; one lost now is counted, too; what"
                + " that sends is never due in the same TICK).");
        // 1 to 4 answer: at each of them q is 3, of those before and behind it
        TermLog x = Due.settled(31);
        Due.quiet(x);
        Due.law(x, "e20-w+q(f=f);dq(k=3)");
        x.write(0, 0, 1);
        Due.due("four are due", Due.way(x), "012 022 032 042 ");
        x.ticks(1);
        int tick = x.count(0);
        for (int n = 1; n <= 4; n++) {
            int at = Due.find(x, n, 0, 3);
            Due.due("q when " + n + " answers", x.message(at, 4), tick + 1 + 3);
            Due.due("q when " + n + " SETS TIMER", x.nodeIs(n, 7), 20 + 3 - 1);
        }
        // SENT first to 4, late, then to 1 to 4: all are due at once
        x = Due.settled(31);
        Due.quiet(x);
        Due.law(x, "e40(f=f);d1(t=4);x(t<4)");
        x.ask(0, 0);
        x.ticks(1);
        Due.law(x, "e40(f=f)");
        x.ask(0, 0);
        Due.due("SENT", Due.way(x), "042 012 022 032 042 ");
        Due.due("all are due", x.message(0, 4) == x.message(4, 4), true);
        x.ticks(1);
        Due.due("4 answers first, and once more", Due.way(x).substring(0, 20), "403 103 203 303 403 ");
        Due.due("due in the next", x.message(0, 4), x.count(0) + 1);
        // one that is not due yet stays, ahead of later ones
        x = Due.settled(7);
        Due.quiet(x);
        Due.law(x, "e40(f=f);d1(t=1)");
        x.write(0, 0, 1);
        x.ticks(1);
        Due.due("not due yet", Due.way(x).substring(0, 8), "012 203 ");
        Due.due("1 has it not", x.nodeIs(1, 4), 1);
        x.ticks(1);
        Due.due("1 has it", x.nodeIs(1, 4), 2);
        // lost as it is handed over
        x = Due.settled(7);
        Due.quiet(x);
        x.write(0, 0, 1);
        x.crash(1);
        x.cut(0, 2, true);
        Due.due("none is lost yet", x.count(8), 0);
        x.ticks(1);
        Due.due("two are lost", x.count(8), 2);
        Due.due("none on its way, but of HEART", Due.find(x, 1, 0, 3) + Due.find(x, 2, 0, 3), -2);
    }

    private static void hearts() {
        Due.says(0, "Then each UP NODE, by numbers: a LEADER: HEART one more; at 3: HEART 0, ROUND one"
                + " more and it SENDS TO ALL.");
        TermLog x = Due.settled(7);
        x.ask(0, 0);
        int round = x.nodeIs(0, 12);
        int timer = x.nodeIs(0, 7);
        x.ticks(1);
        Due.due("HEART 1", x.nodeIs(0, 12), round);
        x.ticks(1);
        Due.due("HEART 2", x.nodeIs(0, 12), round);
        Due.due("nothing is sent", Due.way(x), "");
        x.ticks(1);
        Due.due("HEART 3", x.nodeIs(0, 12), round + 1);
        Due.due("sent to all", Due.way(x), "012 022 ");
        x.ticks(2);
        Due.due("HEART 2 again", x.nodeIs(0, 12), round + 1);
        x.ticks(1);
        Due.due("HEART 3 again", x.nodeIs(0, 12), round + 2);
        Due.due("a LEADER's TIMER stays", x.nodeIs(0, 7), timer);
        x.ticks(2);
        x.crash(0);
        int way = x.count(2);
        x.ticks(1);
        Due.due("DOWN: nothing is sent", Due.find(x, 0, 1, 2), -1);
        Due.due("nor was on its way", way, 0);
    }

    private static void timers() {
        Due.says(0, "Another one: TIMER one less; at 0 it STANDS.");
        TermLog x = new TermLog();
        Due.law(x, TWENTY);
        x.found(7);
        x.ticks(1);
        for (int n = 0; n < 7; n++) Due.due("TIMER of " + n, x.nodeIs(n, 7), 19);
        x.crash(6);
        x.ticks(18);
        for (int n = 0; n < 6; n++) Due.due("TIMER of " + n, x.nodeIs(n, 7), 1);
        Due.due("ROLE at 1", x.nodeIs(0, 3), 0);
        Due.due("TERM at 1", x.nodeIs(0, 1), 0);
        x.ticks(1);
        Due.due("ROLE at 0", x.nodeIs(0, 3), 1);
        Due.due("TERM at 0", x.nodeIs(2, 1), 1);
        Due.due("by numbers", Due.way(x), "010 020 100 120 200 210 ");
        Due.due("set anew", x.nodeIs(2, 7), 20);
        x.ticks(1);
        Due.due("a CANDIDATE's, too", x.nodeIs(0, 7), 19);
        x.ticks(19);
        Due.due("a CANDIDATE STANDS, too", x.nodeIs(0, 1), 2);
        // what is handed over comes first: a TIMER of 1 that is set by it does not end
        x = Due.ledByZero(7);
        Due.law(x, TWENTY);
        Due.quiet(x);
        Due.tickTill(x, y -> y.nodeIs(1, 7) == 19);
        x.cut(0, 1, true);
        Due.tickTill(x, y -> y.nodeIs(1, 7) == 1);
        x.cut(0, 1, false);
        x.ask(0, 0);
        x.ticks(1);
        Due.due("set, then one less", x.nodeIs(1, 7), 19);
        Due.due("it stands not", x.nodeIs(1, 1), 1);
    }

    private static void setsTimer() {
        Due.says(0, "SETS TIMER: with a DRAW: TIMER is e of THE LAW and the DRAW.");
        TermLog x = new TermLog();
        for (int draw = 0; draw < 10; draw++) {
            x.crash(3);
            x.seed(Due.seedFor(draw));
            int behind = Due.xBehind(x.count(6), 1);
            x.comeUp(3);
            Due.due("no e: " + draw, x.nodeIs(3, 7), 8 + draw);
            Due.due("one DRAW", x.count(6), behind);
        }
        Due.law(x, "e13(f=f)");
        for (int draw = 0; draw < 10; draw++) {
            x.crash(3);
            x.seed(Due.seedFor(draw));
            x.comeUp(3);
            Due.due("e 13: " + draw, x.nodeIs(3, 7), 13 + draw);
        }
    }

    private static void noMemberStands() {
        Due.says(0, "STANDS: is it no MEMBER of its CONFIG: it SETS TIMER, no more.");
        TermLog x = new TermLog();
        Due.law(x, TWENTY);
        x.found(64);
        int lot = x.count(6);
        x.crash(6);
        x.ticks(20);
        for (int n = 0; n < 6; n++) {
            Due.due("TIMER of " + n, x.nodeIs(n, 7), 20);
            Due.due("TERM of " + n, x.nodeIs(n, 1), 0);
            Due.due("ROLE of " + n, x.nodeIs(n, 3), 0);
            Due.due("VOTE of " + n, x.nodeIs(n, 2), -2);
            Due.due("VOTES of " + n, x.nodeIs(n, 11), 0);
        }
        Due.due("six DRAWS", x.count(6), Due.xBehind(lot, 6));
        Due.due("nothing is sent", x.count(2), 0);
        // of new ones alone it is a MEMBER
        x = Due.settled(7);
        x.change(0, 8);
        x.ticks(1);
        x.crash(0);
        Due.standSoon(x, 3);
        x.ticks(4);
        Due.due("a new one STANDS", x.nodeIs(3, 3), 1);
    }

    private static void stands() {
        Due.says(0, "Else TERM one more (at 999: it SETS TIMER, no more), CANDIDATE, VOTE and VOTES"
                + " itself, LEADER KNOWN none; it SETS TIMER;");
        TermLog x = Due.settled(7);
        Due.law(x, "e20-w(n=1);e30-w(n=2)");
        x.crash(1);
        x.comeUp(1);
        x.cut(0, 1, true);
        x.ticks(19);
        Due.due("LEADER KNOWN before", x.nodeIs(1, 10), -2);
        x.ticks(1);
        Due.due("TERM", x.nodeIs(1, 1), 2);
        Due.due("ROLE", x.nodeIs(1, 3), 1);
        Due.due("VOTE", x.nodeIs(1, 2), 1);
        Due.due("VOTES", x.nodeIs(1, 11), 2);
        Due.due("LEADER KNOWN", x.nodeIs(1, 10), -2);
        Due.due("TIMER, by its new TERM", x.nodeIs(1, 7), 30);
        // one that follows: LEADER KNOWN goes
        x = Due.settled(7);
        Due.law(x, "e4(f=1);e40(f=f)");
        Due.quiet(x);
        Due.tickTill(x, y -> y.nodeIs(1, 7) < 14);
        Due.due("it follows", x.nodeIs(1, 10), 0);
        x.cut(0, 1, true);
        Due.tickTill(x, y -> y.nodeIs(1, 3) == 1);
        Due.due("it follows no more", x.nodeIs(1, 10), -2);
    }

    private static void term999() {
        Due.says(0, "(at 999: it SETS TIMER, no more)");
        TermLog x = new TermLog();
        Due.law(x, "e4(f=f);x(f=f)");
        x.found(3);
        Due.tickToTerm(x, 0, 998);
        Due.due("VOTE at 998", x.nodeIs(0, 2), 0);
        x.ticks(x.nodeIs(0, 7));
        Due.due("TERM 999", x.nodeIs(0, 1), 999);
        Due.due("CANDIDATE", x.nodeIs(0, 3), 1);
        Due.due("TIMER is set", x.nodeIs(0, 7) > 0, true);
        x.ticks(13);
        x.keep();
        x.crash(1);
        x.crash(0);
        x.seed(Due.seedFor(0));
        x.comeUp(0);
        int lost = x.count(8);
        x.ticks(3);
        int lot = x.count(6);
        Due.due("TIMER of 1", x.nodeIs(0, 7), 1);
        x.ticks(1);
        Due.due("TERM stays", x.nodeIs(0, 1), 999);
        Due.due("no CANDIDATE", x.nodeIs(0, 3), 0);
        Due.due("VOTES", x.nodeIs(0, 11), 0);
        Due.due("nothing is sent", x.count(8), lost);
        Due.due("TIMER is set", x.nodeIs(0, 7) >= 4, true);
        Due.due("X moves on", x.count(6) != lot, true);
        // a CANDIDATE of 999 stays one
        x.undo();
        Due.due("CANDIDATE at 999", x.nodeIs(0, 3), 1);
        x.ticks(13);
        Due.due("CANDIDATE yet", x.nodeIs(0, 3), 1);
        Due.due("its own VOTE", x.nodeIs(0, 11), 1);
        Due.due("TERM yet", x.nodeIs(0, 1), 999);
        Due.due("could win at 999", x.couldWin(0, 1), 3);
        leadsAt999();
    }

    /** The last TERM is as any to who LEADS it. */
    private static void leadsAt999() {
        TermLog x = new TermLog();
        Due.law(x, "e4(f=0);e40(f=f);x(f=f)");
        x.found(7);
        Due.tickToTerm(x, 0, 998);
        Due.law(x, "e4(f=0);e40(f=f)");
        Due.tickTill(x, y -> y.leaderNow() == 0);
        Due.due("TERM", x.nodeIs(0, 1), 999);
        Due.due("TERM of its ENTRY", x.entryAt(0, 1, 0), 999);
        Due.due("KIND of its ENTRY", x.entryAt(0, 1, 1), 2);
        Due.due("TERM of its MESSAGES", x.message(0, 3), 999);
        Due.due("a write", x.write(0, 7, 99), 2);
        int[] parts = {999, 0, 7, 99};
        for (int what = 0; what < 4; what++) {
            Due.due("ENTRY 2: " + what, x.entryAt(0, 2, what), parts[what]);
        }
        x.ticks(6);
        Due.due("HELD", x.heldAt(2, 0), 999);
        Due.due("a READ", x.ask(0, 7), 0);
        Due.due("a change", x.change(0, 127), 3);
        Due.due("new ones", x.entryAt(0, 3, 3), 127);
        x.ticks(2);
        Due.due("answered", x.readIs(0, 1), 99);
        x.compact(1);
        Due.due("TERM of 1", x.nodeIs(1, 13), 999);
        x.crash(0);
        x.ticks(200);
        Due.due("none stands", x.leaderNow(), -2);
        Due.due("TERM of 1 stays", x.nodeIs(1, 1), 999);
        Due.due("VOTE of 1 stays", x.nodeIs(1, 2), 0);
        Due.due("FOLLOWER", x.nodeIs(1, 3), 0);
    }

    private static void callsForVotes() {
        Due.says(0, "have VOTES a MAJORITY, it LEADS; else to each other MEMBER, by numbers, KIND 0:"
                + " its LAST, the TERM of that (of BASE: the SNAPSHOT's).");
        TermLog x = new TermLog();
        Due.law(x, TWENTY);
        x.found(32);
        x.ticks(19);
        Due.due("not yet", x.leaderNow(), -2);
        x.ticks(1);
        Due.due("one alone LEADS at once", x.leaderNow(), 5);
        Due.due("VOTES", x.nodeIs(5, 11), 32);
        Due.due("nothing is sent", x.count(2) + x.count(8), 0);
        x = new TermLog();
        Due.law(x, "e20-w(f=3);e40(f=f)");
        x.found(127 - 16);
        x.ticks(20);
        Due.due("one of six", x.nodeIs(3, 3), 1);
        Due.due("to each other MEMBER", Due.way(x), "300 310 320 350 360 ");
        for (int i = 0; i < 5; i++) Due.due("TERM", x.message(i, 3), 1);
        // of a LOG without ENTRIES: BASE and the TERM of the SNAPSHOT
        x = Due.settled(7);
        x.ticks(3);
        x.compact(1);
        x.crash(0);
        Due.makeLead(x, 1);
        Due.due("by its SNAPSHOT it LEADS", x.leaderNow(), 1);
        // one that is ahead by its SNAPSHOT alone gets VOTES, one behind it none
        x = Due.settled(7);
        x.ticks(3);
        x.cut(0, 2, true);
        x.write(0, 0, 1);
        x.ticks(6);
        x.compact(1);
        x.crash(0);
        Due.standSoon(x, 2);
        x.ticks(6);
        Due.due("2 is behind a SNAPSHOT", x.nodeIs(1, 2), -2);
        Due.makeLead(x, 1);
        Due.due("1 is ahead by it", x.nodeIs(2, 2), 1);
    }

    private static void leads() {
        Due.says(0, "LEADS: LEADER, LEADER KNOWN itself; of each NODE NEXT LAST + 1, MATCH 0, HEARD 0;"
                + " HEART 0, ROUND 1;");
        TermLog x = Due.settled(7);
        for (int i = 0; i < 5; i++) x.write(0, 0, i);
        x.ticks(9);
        Due.due("MATCH of before", x.about(0, 1, 1), 6);
        Due.due("HEARD of before", x.about(0, 1, 2) > 1, true);
        Due.makeLead(x, 0);
        Due.due("ROLE", x.nodeIs(0, 3), 2);
        Due.due("LEADER KNOWN", x.nodeIs(0, 10), 0);
        Due.due("LAST", x.nodeIs(0, 4), 7);
        for (int n = 0; n < 7; n++) {
            Due.due("NEXT of " + n, x.about(0, n, 0), 7);
            Due.due("MATCH of " + n, x.about(0, n, 1), n == 0 ? 7 : 0);
            Due.due("HEARD of " + n, x.about(0, n, 2), 0);
        }
        Due.due("ROUND", x.nodeIs(0, 12), 1);
        x.ticks(1);
        Due.due("HEART 2", x.nodeIs(0, 12), 1);
        x.ticks(1);
        Due.due("HEART 3", x.nodeIs(0, 12), 2);
    }

    /** One that has led before, and did not crash: what it had then is set anew. */
    private static void leadsAnew() {
        TermLog x = Due.settled(7);
        x.write(0, 0, 1);
        x.ticks(6);
        Due.quiet(x);
        x.cut(0, 1, true);
        Due.standSoon(x, 1);
        x.ticks(2);
        x.ask(0, 0);
        x.ticks(2);
        x.cut(0, 1, false);
        Due.due("1 STANDS", x.nodeIs(1, 3), 1);
        Due.due("0 LEADS yet, HEART is 2", x.nodeIs(0, 3), 2);
        Due.law(x, "e20-w(f=0);e40(f=f)");
        x.ticks(1);
        x.crash(1);
        int round = x.nodeIs(0, 12);
        Due.due("0 follows", x.nodeIs(0, 3), 0);
        Due.due("ROUND as it was", round > 1, true);
        Due.tickTill(x, y -> y.leaderNow() == 0);
        Due.due("ROUND anew, no HEART of before", x.nodeIs(0, 12), 1);
        Due.due("HEARD anew", x.about(0, 2, 2), 0);
        Due.due("MATCH anew", x.about(0, 2, 1), 0);
        x.ticks(1);
        Due.due("HEART 2 then", x.nodeIs(0, 12), 1);
        x.ticks(1);
        Due.due("HEART 3 then", x.nodeIs(0, 12), 2);
    }

    private static void laysNothing() {
        Due.says(0, "an ENTRY of its TERM, KIND 2, is laid (no room: it is not, all else as told); MATCH"
                + " of itself LAST; it SENDS TO ALL; then it HOLDS.");
        TermLog x = new TermLog();
        Due.law(x, TWENTY);
        x.found(1);
        x.ticks(20);
        int[] parts = {1, 2, 0, 0};
        for (int what = 0; what < 4; what++) {
            Due.due("ENTRY " + what, x.entryAt(0, 1, what), parts[what]);
        }
        Due.due("MATCH of itself", x.about(0, 0, 1), 1);
        Due.due("one alone HOLDS at once", x.nodeIs(0, 5), 1);
        Due.due("HELD FOR SURE", x.heldAt(1, 1), 2);
        x = Due.ledByZero(7);
        Due.due("sent to all", Due.way(x), "012 022 ");
        Due.due("with the ENTRY", x.message(0, 5), 1);
        Due.due("not HELD yet", x.nodeIs(0, 5), 0);
        // no room: INDEX 999
        x = NodesTest.far(999);
        x.change(0, 3);
        x.compact(0);
        Due.makeLead(x, 0);
        Due.due("not laid", x.nodeIs(0, 4), 999);
        Due.due("TERM", x.nodeIs(0, 1), 2);
        Due.due("LEADER KNOWN", x.nodeIs(0, 10), 0);
        Due.due("NEXT", x.about(0, 5, 0), 1000);
        Due.due("MATCH of itself is LAST", x.about(0, 0, 1), 999);
        Due.due("ROUND", x.nodeIs(0, 12), 1);
        x.ticks(2);
        Due.due("HEART 2", x.nodeIs(0, 12), 1);
        x.ticks(1);
        Due.due("HEART 3", x.nodeIs(0, 12), 2);
    }

    private static void sendsToAll() {
        Due.says(0, "SENDS TO ALL: it SENDS ON to each other MEMBER, by numbers.");
        TermLog x = Due.settled(127);
        Due.quiet(x);
        x.ask(0, 0);
        Due.due("six", Due.way(x), "012 022 032 042 052 062 ");
        x = Due.settled(127);
        Due.makeLead(x, 3);
        Due.quiet(x);
        x.ask(3, 0);
        Due.due("of 3", Due.way(x), "302 312 322 342 352 362 ");
        x = Due.settled(7);
        Due.quiet(x);
        x.crash(1);
        x.cut(0, 2, true);
        x.ask(0, 0);
        Due.due("DOWN and cut ones, too, no others", Due.way(x), "012 022 ");
        x = Due.settled(1);
        x.write(0, 0, 0);
        Due.due("one alone sends nothing", x.count(2) + x.count(8), 0);
    }

    private static void sendsOn() {
        Due.says(0, "else KIND 2: PREV = NEXT - 1, the TERM at PREV, up to four ENTRIES from NEXT on,"
                + " COMMIT, ROUND.");
        TermLog x = Due.settled(7);
        Due.quiet(x);
        x.ask(0, 0);
        Due.due("none from NEXT on", x.message(0, 5), 0);
        Due.quiet(x);
        x.crash(1);
        for (int i = 1; i <= 6; i++) {
            x.write(0, 0, i);
            Due.due(i + " ENTRIES", x.message(x.count(2) - 2, 5), Math.min(i, 4));
        }
        Due.due("NEXT stays", x.about(0, 1, 0), 2);
        x.comeUp(1);
        x.ticks(1);
        Due.due("1 has four", x.nodeIs(1, 4), 5);
        Due.due("of NEXT", x.entryAt(1, 2, 3), 1);
        Due.due("to the fourth", x.entryAt(1, 5, 3), 4);
        Due.due("COMMIT as it was SENT", x.nodeIs(1, 5), 1);
        x.ticks(2);
        Due.due("COMMIT as it was SENT later", x.nodeIs(1, 5) > 1, true);
        // COMMIT and ROUND as they were when it was SENT, not when it comes
        x = Due.settled(7);
        Due.quiet(x);
        Due.law(x, "e40(f=f);d9(t=1)");
        x.write(0, 0, 1);
        int round = x.nodeIs(0, 12);
        x.ticks(9);
        Due.due("COMMIT goes on", x.nodeIs(0, 5), 2);
        Due.due("ROUND goes on", x.nodeIs(0, 12), round + 3);
        x.ticks(1);
        Due.due("ENTRY of 1", x.nodeIs(1, 4), 2);
        Due.due("COMMIT of 1", x.nodeIs(1, 5), 1);
        x.ticks(1);
        Due.due("HEARD of 1", x.about(0, 1, 2), round);
    }

    private static void sendsSnapshots() {
        Due.says(0, "SENDS ON to a NODE: is NEXT no more than BASE: KIND 4: BASE, its TERM, CONFIG, KEYS"
                + " of the SNAPSHOT, ROUND;");
        TermLog x = Due.settled(7);
        x.ticks(3);
        Due.quiet(x);
        x.crash(1);
        x.compact(0);
        Due.due("NEXT", x.about(0, 1, 0), 2);
        Due.due("BASE", x.nodeIs(0, 6), 1);
        x.ask(0, 0);
        Due.due("NEXT is BASE + 1", Due.way(x), "012 022 ");
        x.write(0, 3, 30);
        Due.tickTill(x, y -> y.nodeIs(0, 5) == 2);
        x.compact(0);
        Due.quiet(x);
        x.ask(0, 0);
        Due.due("NEXT is BASE", Due.way(x), "014 022 ");
        Due.due("no ENTRIES", x.message(0, 5), 0);
        x.write(0, 3, 31);
        Due.tickTill(x, y -> y.nodeIs(0, 5) == 3);
        Due.quiet(x);
        x.ask(0, 0);
        int round = x.nodeIs(0, 12);
        Due.due("NEXT is BASE yet", Due.way(x), "014 022 ");
        Due.due("the LEADER's KEY", x.keyOf(0, 3), 31);
        Due.law(x, "e40(f=f)");
        x.comeUp(1);
        x.ticks(1);
        Due.due("its BASE", x.nodeIs(1, 6), 2);
        Due.due("its TERM", x.nodeIs(1, 13), 1);
        Due.due("KEY of the SNAPSHOT, not the one now", x.keyOf(1, 3), 30);
        Due.due("KEY of its SNAPSHOT", x.keyOf(1, 13), 30);
        x.ticks(1);
        Due.due("its ROUND is HEARD", x.about(0, 1, 2), round);
        // its CONFIG, not a later one; all as it was SENT
        x = Due.settled(7);
        x.change(0, 15);
        x.cut(0, 3, true);
        x.ticks(12);
        Due.quiet(x);
        Due.due("HELD", x.nodeIs(0, 5), 3);
        x.compact(0);
        Due.law(x, "e40(f=f);d4(k=4)");
        x.cut(0, 3, false);
        x.ask(0, 0);
        x.change(0, 31);
        x.write(0, 6, 66);
        x.ticks(3);
        x.compact(0);
        Due.due("BASE moves on", x.nodeIs(0, 6) > 3, true);
        x.ticks(2);
        Due.due("BASE as it was SENT", x.nodeIs(3, 6), 3);
        Due.due("old ones as they were", x.nodeIs(3, 8), 15);
        Due.due("new ones as they were", x.nodeIs(3, 9), 0);
        Due.due("KEY as it was", x.keyOf(3, 6), 0);
    }

    /** 0 LEADS with 1; 2 is behind and has just called at TERM 2. */
    private static TermLog calledFromBehind() {
        TermLog x = Due.settled(7);
        x.cut(2, 0, true);
        x.cut(2, 1, true);
        x.write(0, 0, 1);
        x.ticks(5);
        Due.due("LAST of 1", x.nodeIs(1, 4), 2);
        Due.law(x, "e4(f=2);e40(f=f)");
        x.crash(2);
        x.comeUp(2);
        Due.tickTill(x, y -> y.nodeIs(2, 1) == 2);
        x.cut(2, 0, false);
        x.cut(2, 1, false);
        return x;
    }

    private static void termAbove() {
        Due.says(0, "HANDED OVER, of any KIND: is its TERM above the receiver's, that is the receiver's"
                + " TERM, VOTE none, FOLLOWER (a LEADER's READS are lost), LEADER KNOWN none (all else,"
                + " VOTES, TIMER, ROUND, HEART, stays). Then by KIND:");
        TermLog x = calledFromBehind();
        Due.due("a READ", x.ask(0, 0), 0);
        Due.due("VOTE of 1 before", x.nodeIs(1, 2), 0);
        int[] before = {x.nodeIs(0, 11), x.nodeIs(0, 7), x.nodeIs(0, 12), x.nodeIs(1, 7)};
        x.ticks(1);
        for (int n = 0; n < 2; n++) {
            Due.due("TERM of " + n, x.nodeIs(n, 1), 2);
            Due.due("VOTE of " + n, x.nodeIs(n, 2), -2);
            Due.due("ROLE of " + n, x.nodeIs(n, 3), 0);
            Due.due("LEADER KNOWN of " + n, x.nodeIs(n, 10), -2);
        }
        Due.due("the READ is lost", x.readIs(0, 0), 2);
        Due.due("VOTES stay", x.nodeIs(0, 11), before[0]);
        Due.due("TIMER stays, but that a TICK went by", x.nodeIs(0, 7), before[1] - 1);
        Due.due("ROUND stays", x.nodeIs(0, 12), before[2]);
        Due.due("TIMER of 1, too", x.nodeIs(1, 7), before[3] - 1);
        // of the same TERM, and of one below, nothing is so
        x = Due.settled(7);
        Due.quiet(x);
        x.ask(0, 0);
        x.ticks(1);
        Due.due("VOTE stays", x.nodeIs(1, 2), 0);
        x = Due.settled(7);
        Due.quiet(x);
        Due.law(x, "e40(f=f);d9(n=1)");
        x.write(0, 0, 1);
        Due.standSoon(x, 1);
        x.ticks(4);
        Due.due("TERM of 1", x.nodeIs(1, 1), 2);
        x.ticks(9);
        Due.due("TERM of 1 stays", x.nodeIs(1, 1), 2);
        Due.due("VOTE of 1 stays", x.nodeIs(1, 2), 1);
    }

    private static void termAboveByAnyKind() {
        Due.says(0, "HANDED OVER, of any KIND: is its TERM above the receiver's, that is the receiver's"
                + " TERM, VOTE none, FOLLOWER");
        // KIND 0 to a CANDIDATE
        TermLog x = new TermLog();
        Due.law(x, "e20-w(f=0);e20-w(f=1&n=0);e13-w(f=1);e40(f=f);x(k=0&n=1)");
        x.found(7);
        x.ticks(20);
        Due.due("0 is a CANDIDATE of TERM 1", x.nodeIs(0, 3) + x.nodeIs(0, 1), 2);
        x.ticks(14);
        Due.due("KIND 0: TERM", x.nodeIs(0, 1), 2);
        Due.due("KIND 0: FOLLOWER", x.nodeIs(0, 3), 0);
        Due.due("KIND 0: VOTE", x.nodeIs(0, 2), 1);
        // KIND 1 to a CANDIDATE: 1 has TERM 3, 2 calls at TERM 2
        x = Due.settled(7);
        x.cut(1, 0, true);
        x.cut(1, 2, true);
        x.write(0, 0, 1);
        Due.law(x, "e4(f=1);e40(f=f)");
        x.ticks(3);
        x.crash(1);
        x.comeUp(1);
        Due.tickTill(x, y -> y.nodeIs(1, 1) == 3);
        x.crash(1);
        Due.law(x, "e40(f=f)");
        x.comeUp(1);
        x.crash(0);
        Due.standSoon(x, 2);
        x.cut(1, 2, false);
        x.ticks(5);
        Due.due("1 answers", Due.way(x), "121 ");
        Due.due("2 is a CANDIDATE of TERM 2", x.nodeIs(2, 1), 2);
        x.ticks(1);
        Due.due("KIND 1: TERM", x.nodeIs(2, 1), 3);
        Due.due("KIND 1: VOTE none", x.nodeIs(2, 2), -2);
        Due.due("KIND 1: FOLLOWER", x.nodeIs(2, 3), 0);
        Due.due("KIND 1: VOTES stay", x.nodeIs(2, 11), 4);
        // KIND 2 to one that has not heard of the TERM, KIND 3 to a LEADER of an older one
        x = Due.settled(31);
        x.cut(3, 1, true);
        Due.makeLead(x, 1);
        Due.due("3 has not heard of it", x.nodeIs(3, 1), 1);
        x.cut(3, 1, false);
        Due.due("VOTE of 3", x.nodeIs(3, 2), 0);
        x.ticks(1);
        Due.due("KIND 2: TERM", x.nodeIs(3, 1), 2);
        Due.due("KIND 2: VOTE none", x.nodeIs(3, 2), -2);
        x = Due.settled(7);
        x.cut(0, 1, true);
        x.cut(0, 2, true);
        Due.makeLead(x, 1);
        x.ticks(3);
        x.cut(0, 2, false);
        x.ask(0, 0);
        Due.due("0 LEADS yet", x.nodeIs(0, 3), 2);
        x.ticks(2);
        Due.due("KIND 3: TERM", x.nodeIs(0, 1), 2);
        Due.due("KIND 3: VOTE none", x.nodeIs(0, 2), -2);
        Due.due("KIND 3: FOLLOWER", x.nodeIs(0, 3), 0);
        Due.due("KIND 3: LEADER KNOWN none", x.nodeIs(0, 10), -2);
        Due.due("KIND 3: the READ is lost", x.readIs(0, 0), 2);
    }

    private static void granted() {
        Due.says(0, "0: granted if its TERM is the receiver's, VOTE is none or the sender, and the TERM"
                + " of its LAST is above that of the receiver's LAST, or the same and its LAST no"
                + " less: then VOTE is the sender, and it SETS TIMER.");
        // LAST the same, one more, one less: 2 has one ENTRY less than 0, 1, 3
        TermLog x = oneBehind();
        Due.standSoon(x, 1);
        int timer = x.nodeIs(2, 7);
        x.ticks(5);
        Due.due("LAST the same", x.nodeIs(3, 2), 1);
        Due.due("LAST one more", x.nodeIs(2, 2), 1);
        Due.due("TIMER of 2 is set", x.nodeIs(2, 7) != timer - 5 && x.nodeIs(2, 7) >= 39, true);
        x = oneBehind();
        Due.standSoon(x, 2);
        timer = x.nodeIs(1, 7);
        x.ticks(5);
        Due.due("TERM of 1", x.nodeIs(1, 1), 2);
        Due.due("LAST one less", x.nodeIs(1, 2), -2);
        Due.due("LAST one less, of 3", x.nodeIs(3, 2), -2);
        Due.due("TIMER of 1 goes on", x.nodeIs(1, 7), timer - 5);
        // VOTE is another one: 0 and 1 call at once, 2 hears 0 first
        x = new TermLog();
        Due.law(x, "e20-w(f<2);e40(f=f)");
        x.found(7);
        x.ticks(21);
        Due.due("VOTE of 2", x.nodeIs(2, 2), 0);
        Due.due("VOTE of 0", x.nodeIs(0, 2), 0);
        Due.due("VOTE of 1", x.nodeIs(1, 2), 1);
        x.ticks(1);
        Due.due("0 LEADS", x.leaderNow(), 0);
        Due.due("1 has its own VOTE alone", x.nodeIs(1, 11), 2);
        lateCallIsNotGranted();
    }

    /** A call of TERM 1 comes to one that has voted for the sender at TERM 2. */
    private static void lateCallIsNotGranted() {
        TermLog x = new TermLog();
        Due.law(x, "e4(f=0);e40(f=f);d9(k=0&n=1&t=1);x(k=2)");
        x.found(7);
        x.crash(2);
        x.crash(0);
        x.seed(Due.seedFor(0, 1));
        x.comeUp(0);
        x.ticks(4);
        Due.due("called at TERM 1", x.message(0, 4), x.count(0) + 10);
        x.ticks(6);
        Due.due("VOTE of 1 at TERM 2", x.nodeIs(1, 2) + x.nodeIs(1, 1), 2);
        x.ticks(3);
        int timer = x.nodeIs(1, 7);
        Due.due("the late one is due next", x.message(0, 4), x.count(0) + 1);
        x.ticks(1);
        Due.due("TIMER of 1 goes on", x.nodeIs(1, 7), timer - 1);
        Due.due("it answers", Due.find(x, 1, 0, 1) >= 0, true);
        Due.due("of its own TERM", x.message(Due.find(x, 1, 0, 1), 3), 2);
    }

    /** 0 is DOWN, 1 and 3 have ENTRIES 1 and 2, 2 has the first alone. */
    private static TermLog oneBehind() {
        TermLog x = Due.settled(15);
        Due.quiet(x);
        Due.law(x, "e40(f=f);x(t=2)");
        x.write(0, 0, 1);
        x.ticks(1);
        x.crash(0);
        Due.quiet(x);
        Due.due("LASTS", x.nodeIs(1, 4) * 100 + x.nodeIs(2, 4) * 10 + x.nodeIs(3, 4), 212);
        return x;
    }

    /** LAST 6 of TERM 1 against LAST 2 of TERM 2. */
    private static void grantedByTerm() {
        Due.says(0, "and the TERM of its LAST is above that of the receiver's LAST, or the same and its"
                + " LAST no less:");
        TermLog x = parted();
        Due.standSoon(x, 2);
        x.ticks(5);
        Due.due("TERM of 0", x.nodeIs(0, 1), 3);
        Due.due("a greater TERM, a lesser LAST", x.nodeIs(0, 2), 2);
        x = parted();
        Due.law(x, "e4(f=0);e40(f=f)");
        x.crash(0);
        x.comeUp(0);
        Due.tickTill(x, y -> y.nodeIs(2, 1) == 3);
        Due.due("a lesser TERM, a greater LAST", x.nodeIs(2, 2), -2);
        Due.due("VOTES of 0", x.nodeIs(0, 11), 1);
    }

    private static TermLog parted() {
        TermLog x = Due.settled(7);
        x.cut(0, 1, true);
        x.cut(0, 2, true);
        for (int i = 0; i < 5; i++) x.write(0, 0, i);
        Due.makeLead(x, 1);
        x.ticks(3);
        x.crash(1);
        x.cut(0, 2, false);
        Due.due("LAST of 0", x.nodeIs(0, 4) * 10 + x.nodeIs(0, 13), 61);
        Due.due("LAST of 2", x.nodeIs(2, 4) * 10 + x.nodeIs(2, 13), 22);
        return x;
    }

    private static void answersVotes() {
        Due.says(0, "Answer KIND 1: granted (1, 0).");
        TermLog x = oneBehind();
        Due.standSoon(x, 1);
        x.ticks(5);
        Due.due("granted", Due.way(x), "211 311 ");
        x.ticks(1);
        Due.due("1 has VOTES", x.nodeIs(1, 11), 14);
        Due.due("1 LEADS", x.leaderNow(), 1);
        x = oneBehind();
        Due.standSoon(x, 2);
        x.ticks(5);
        Due.due("not granted", Due.way(x), "121 321 ");
        Due.due("of the TERM", x.message(0, 3), 2);
        x.ticks(1);
        Due.due("2 has its own VOTE alone", x.nodeIs(2, 11), 4);
        Due.due("2 LEADS not", x.nodeIs(2, 3), 1);
    }

    private static void counted() {
        Due.says(0, "1: if the receiver is a CANDIDATE, the TERM its own, and it is granted: VOTES have"
                + " the sender, too; are they a MAJORITY of its CONFIG, it LEADS.");
        // of five, one answer a TICK
        TermLog x = new TermLog();
        Due.law(x, "e20-w(f=0);e40(f=f);df(k=1)");
        x.found(31);
        x.ticks(21);
        Due.due("all vote for 0", x.count(2), 4);
        x.ticks(2);
        Due.due("two of five", x.nodeIs(0, 11), 3);
        Due.due("no MAJORITY", x.nodeIs(0, 3), 1);
        x.ticks(1);
        Due.due("three of five", x.nodeIs(0, 11), 7);
        Due.due("a MAJORITY", x.nodeIs(0, 3), 2);
        Due.due("it LEADS, ROUND 1", x.nodeIs(0, 12), 1);
        x.ticks(1);
        Due.due("no CANDIDATE: VOTES stay", x.nodeIs(0, 11), 7);
        Due.due("it does not LEAD anew", x.nodeIs(0, 4), 1);
        // of four, two are none
        x = new TermLog();
        Due.law(x, "e20-w(f=0);e40(f=f);df(k=1)");
        x.found(15);
        x.ticks(23);
        Due.due("two of four", x.nodeIs(0, 11), 3);
        Due.due("no MAJORITY of four", x.nodeIs(0, 3), 1);
        x.ticks(1);
        Due.due("three of four", x.nodeIs(0, 3), 2);
        // a VOTE of TERM 1 that comes to a CANDIDATE of TERM 2
        x = new TermLog();
        Due.law(x, "e13-w(f=0);e40(f=f);d9(n=1);x(k=0&n=2)");
        x.found(7);
        x.ticks(26);
        Due.due("a CANDIDATE of TERM 2", x.nodeIs(0, 1) * 10 + x.nodeIs(0, 3), 21);
        Due.tickTill(x, y -> y.count(2) == 0);
        Due.due("TERM 2 yet", x.nodeIs(0, 1), 2);
        Due.due("VOTES of TERM 1 do not count", x.nodeIs(0, 11), 1);
        Due.due("it LEADS not", x.nodeIs(0, 3), 1);
    }
}
