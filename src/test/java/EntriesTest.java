/** 'Terms', part 2, KINDS 2 and 3, sentence by sentence: ENTRIES, hints, what a LEADER learns. */
public final class EntriesTest {
    private EntriesTest() {}

    public static void main(String[] args) {
        termBelow();
        termBelowAtItsLeader();
        follows();
        prevAboveLast();
        hintOfTerm();
        hintAboveBase();
        upToBase();
        sameTerm();
        anotherTerm();
        lesserCommit();
        commitIsAtLeast();
        reachedIsAnswered();
        heardAndMatch();
        ofALeaderAlone();
        sendsOnIfMore();
        hintsNext();
        thenItAnswers();
        Due.end("EntriesTest");
    }

    /** What 0 sent at TERM 1 comes ten TICKS late to 1, which has stood at TERM 2. */
    private static void termBelow() {
        Due.says(0, "2: is its TERM below the receiver's: answer KIND 3: 0, 1, 0 (see below).");
        TermLog x = Due.settled(7);
        Due.quiet(x);
        Due.law(x, "e4(f=1);e40(f=f);d9(k=2);x(k=0)");
        x.write(0, 0, 1);
        x.crash(1);
        x.seed(Due.seedFor(0));
        x.comeUp(1);
        Due.law(x, "e40(f=f);d9(k=2);x(k=0)");
        x.ticks(9);
        Due.due("1 is a CANDIDATE of TERM 2", x.nodeIs(1, 3) * 10 + x.nodeIs(1, 1), 12);
        int timer = x.nodeIs(1, 7);
        x.ticks(1);
        Due.due("it came", x.nodeIs(2, 4), 2);
        Due.due("no ENTRY", x.nodeIs(1, 4), 1);
        Due.due("ROLE stays", x.nodeIs(1, 3), 1);
        Due.due("LEADER KNOWN stays", x.nodeIs(1, 10), -2);
        Due.due("TIMER goes on", x.nodeIs(1, 7), timer - 1);
        int at = Due.find(x, 1, 0, 3);
        Due.due("it answers", at >= 0, true);
        Due.due("of its own TERM", x.message(at, 3), 2);
        x.ticks(1);
        Due.due("0 hears of the TERM", x.nodeIs(0, 1), 2);
        Due.due("and LEADS no more", x.nodeIs(0, 3), 0);
    }

    /** 0 LEADS TERM 2 when 1 answers what 0 had sent at TERM 1: NEXT is 1, HEARD is none. */
    private static void termBelowAtItsLeader() {
        Due.says(0, "answer KIND 3: 0, 1, 0 (see below)");
        TermLog x = Due.settled(7);
        x.write(0, 0, 1);
        x.ticks(6);
        Due.quiet(x);
        int t = x.count(0);
        Due.law(x, "e4(f=0);e40(f=f);d9(n=1);x(k=3&n=2&s<" + (t + 10) + ")");
        x.write(0, 0, 2);
        x.crash(0);
        x.seed(Due.seedFor(0));
        x.comeUp(0);
        x.ticks(9);
        Due.due("0 LEADS TERM 2", x.leaderNow() + 10 * x.nodeIs(0, 1), 20);
        Due.due("LAST", x.nodeIs(0, 4), 4);
        Due.due("NEXT of 1", x.about(0, 1, 0), 4);
        Due.due("what is late is due", x.message(0, 3) * 100 + x.message(0, 4), 100 + t + 10);
        x.ticks(1);
        Due.due("1 answers at TERM 2", x.message(Due.find(x, 1, 0, 3), 3), 2);
        Due.due("NEXT of 1 yet", x.about(0, 1, 0), 4);
        x.ticks(1);
        Due.due("HEARD: 0", x.about(0, 1, 2), 0);
        Due.due("NEXT: 1", x.about(0, 1, 0), 1);
        Due.due("MATCH: none", x.about(0, 1, 1), 0);
        Due.due("all are sent on", x.message(Due.find(x, 0, 1, 2), 5), 4);
        Due.due("0 LEADS yet", x.leaderNow(), 0);
    }

    private static void follows() {
        Due.says(0, "Else FOLLOWER (a LEADER's READS are lost), LEADER KNOWN the sender, it SETS TIMER.");
        TermLog x = new TermLog();
        Due.law(x, "e20-w(f<2);e40(f=f)");
        x.found(7);
        x.ticks(22);
        Due.due("0 LEADS", x.leaderNow(), 0);
        Due.due("1 is a CANDIDATE of that TERM", x.nodeIs(1, 3) * 10 + x.nodeIs(1, 1), 11);
        Due.due("1 knows of none", x.nodeIs(1, 10), -2);
        Due.due("TIMER of 1", x.nodeIs(1, 7), 18);
        x.ticks(1);
        Due.due("1 is a FOLLOWER", x.nodeIs(1, 3), 0);
        Due.due("LEADER KNOWN", x.nodeIs(1, 10), 0);
        Due.due("of 2, too", x.nodeIs(2, 10), 0);
        Due.due("TIMER is set", x.nodeIs(1, 7), 19);
        Due.due("VOTE stays", x.nodeIs(1, 2), 1);
        // a LEADER of an older TERM
        x = Due.settled(7);
        x.cut(0, 1, true);
        x.cut(0, 2, true);
        Due.makeLead(x, 1);
        Due.law(x, "e20-w(f=f)");
        x.ask(0, 0);
        x.cut(0, 1, false);
        x.cut(0, 2, false);
        Due.tickTill(x, y -> y.nodeIs(0, 3) == 0);
        x.ticks(3);
        Due.due("LEADER KNOWN of 0", x.nodeIs(0, 10), 1);
        Due.due("its READ is lost", x.readIs(0, 0), 2);
        Due.due("TIMER of 0", x.nodeIs(0, 7) >= 17, true);
    }

    /** 0 LEADS anew: 1 has one ENTRY less than 0 had, 2 has as many. */
    private static TermLog oneLess() {
        TermLog x = Due.settled(7);
        Due.quiet(x);
        x.cut(0, 1, true);
        x.write(0, 0, 1);
        x.ticks(2);
        x.crash(0);
        Due.quiet(x);
        x.comeUp(0);
        x.cut(0, 1, false);
        Due.makeLead(x, 0);
        Due.law(x, "e40(f=f)");
        Due.due("NEXT", x.about(0, 1, 0), 3);
        return x;
    }

    private static void prevAboveLast() {
        Due.says(0, "Is PREV above LAST: answer KIND 3: 0, LAST + 1, ROUND.");
        TermLog x = oneLess();
        Due.due("LAST of 1 is PREV - 1", x.nodeIs(1, 4), 1);
        Due.due("LAST of 2 is PREV", x.nodeIs(2, 4), 2);
        x.ticks(1);
        Due.due("1 has it not", x.nodeIs(1, 4), 1);
        Due.due("1 follows", x.nodeIs(1, 10), 0);
        Due.due("2 has it", x.nodeIs(2, 4), 3);
        x.ticks(1);
        Due.due("NEXT of 1 is its LAST + 1", x.about(0, 1, 0), 2);
        Due.due("HEARD of 1 is the ROUND", x.about(0, 1, 2), 1);
        Due.due("MATCH of 1", x.about(0, 1, 1), 0);
        Due.due("MATCH of 2", x.about(0, 2, 1), 3);
        x.ticks(1);
        Due.due("1 has both", x.nodeIs(1, 4), 3);
        // far above: LAST + 1, not one less than before
        x = Due.settled(7);
        Due.quiet(x);
        x.crash(1);
        for (int i = 0; i < 9; i++) x.write(0, 0, i);
        x.ticks(9);
        Due.makeLead(x, 0);
        Due.law(x, "e40(f=f)");
        x.comeUp(1);
        Due.due("NEXT far above", x.about(0, 1, 0), 11);
        x.ticks(2);
        Due.due("NEXT then", x.about(0, 1, 0), 2);
    }

    private static void hintOfTerm() {
        Due.says(0, "Is PREV above BASE, or BASE, and the TERM at PREV another one: answer KIND 3: 0, the"
                + " first INDEX from which on up to PREV all ENTRIES of the receiver have its own TERM"
                + " at PREV");
        TermLog x = apart(4);
        Due.due("NEXT of 0 at first", x.about(2, 0, 0), 8);
        Due.due("TERM of 0 at 1, 2, 6", x.entryAt(0, 1, 0) * 100 + x.entryAt(0, 2, 0) * 10
                + x.entryAt(0, 6, 0), 122);
        x.ticks(2);
        Due.due("PREV above LAST", x.about(2, 0, 0), 7);
        x.ticks(2);
        Due.due("the first of its TERM", x.about(2, 0, 0), 2);
        Due.due("LAST of 0 stays", x.nodeIs(0, 4), 6);
        x.ticks(1);
        Due.due("four fit behind PREV 1", x.entryAt(0, 5, 0), 3);
        Due.due("what was behind them is gone", x.nodeIs(0, 4), 5);
        x.ticks(5);
        Due.due("all fit", x.nodeIs(0, 4), 8);
        Due.due("TERM of LAST", x.nodeIs(0, 13), 4);
        // of two, and of one of its TERM
        for (int writes = 0; writes < 2; writes++) {
            x = apart(writes);
            x.ticks(2);
            Due.due("PREV is LAST of 0", x.about(2, 0, 0), 3 + writes);
            x.ticks(2);
            Due.due("the first of " + (1 + writes), x.about(2, 0, 0), 2);
        }
    }

    /**
     * By INDEX the TERMS of 0 are 1, 2 and 2 once more for each write, and those of 1 and 2 are 1,
     * 3, 3, 3, 3, 3, 3; 2 LEADS TERM 4 since this TICK and lays the eighth.
     */
    private static TermLog apart(int writes) {
        TermLog x = Due.settled(7);
        x.ticks(3);
        Due.quiet(x);
        x.cut(0, 2, true);
        x.cut(1, 2, true);
        Due.makeLead(x, 0);
        x.cut(0, 1, true);
        for (int i = 0; i < writes; i++) x.write(0, 0, i);
        x.cut(1, 2, false);
        Due.due("LAST of 0", x.nodeIs(0, 4) * 10 + x.nodeIs(0, 13), 22 + 10 * writes);
        Due.makeLead(x, 1);
        Due.law(x, "e40(f=f)");
        for (int i = 0; i < 5; i++) x.write(1, 1, i);
        Due.tickTill(x, y -> y.nodeIs(2, 4) == 7);
        Due.due("TERM of LAST of 2", x.nodeIs(2, 13), 3);
        Due.makeLead(x, 2);
        Due.law(x, "e40(f=f)");
        x.cut(0, 2, false);
        Due.due("TERM of 2", x.nodeIs(2, 1), 4);
        return x;
    }

    private static void hintAboveBase() {
        Due.says(0, "(above BASE; of BASE: BASE, 1 at least), ROUND.");
        // ENTRY 1 is of the same TERM as those behind it: the hint is BASE + 1
        TermLog x = sameTermFromOne(false);
        x.ticks(2);
        Due.due("PREV above LAST", x.about(2, 0, 0), 5);
        x.ticks(2);
        Due.due("the first of all", x.about(2, 0, 0), 1);
        Due.due("HEARD is the ROUND", x.about(2, 0, 2) > 0, true);
        x = sameTermFromOne(true);
        Due.due("BASE of 0", x.nodeIs(0, 6), 1);
        x.ticks(2);
        Due.due("PREV above LAST, with a BASE", x.about(2, 0, 0), 5);
        x.ticks(2);
        Due.due("the first above BASE", x.about(2, 0, 0), 2);
        x.ticks(2);
        Due.due("PREV is BASE and fits", x.about(2, 0, 1) >= 5, true);
    }

    /** By INDEX the TERMS of 0 are 1, 1, 1, 1, those of 2, that LEADS TERM 3, are 1, 2, 2, 2, 2, 3. */
    private static TermLog sameTermFromOne(boolean isCompact) {
        TermLog x = Due.settled(7);
        x.ticks(3);
        if (isCompact) x.compact(0);
        Due.quiet(x);
        x.cut(0, 1, true);
        x.cut(0, 2, true);
        for (int i = 0; i < 3; i++) x.write(0, 0, i);
        Due.makeLead(x, 1);
        Due.law(x, "e40(f=f)");
        for (int i = 0; i < 3; i++) x.write(1, 1, i);
        Due.tickTill(x, y -> y.nodeIs(2, 4) == 5);
        Due.makeLead(x, 2);
        Due.law(x, "e40(f=f)");
        x.cut(0, 2, false);
        Due.due("LAST of 0", x.nodeIs(0, 4) * 10 + x.nodeIs(0, 13), 41);
        Due.due("NEXT of 0", x.about(2, 0, 0), 6);
        return x;
    }

    /** 1 gets ENTRIES 2 to 5 again and again, as its answers are lost, and COMPACTS meanwhile. */
    private static TermLog deafTo1(int some) {
        TermLog x = Due.settled(7);
        Due.quiet(x);
        Due.law(x, "e40(f=f);x(f=1)");
        for (int i = 1; i <= some; i++) x.write(0, 0, i);
        x.ticks(6);
        Due.due("NEXT of 1", x.about(0, 1, 0), 2);
        return x;
    }

    private static void upToBase() {
        Due.says(0, "Else each ENTRY, by INDEX: one up to BASE is as it is;");
        TermLog x = deafTo1(6);
        Due.due("LAST of 1", x.nodeIs(1, 4), 5);
        Due.due("COMMIT of 1", x.nodeIs(1, 5), 5);
        x.compact(1);
        Due.due("PREV is below its BASE", x.nodeIs(1, 6), 5);
        Due.law(x, "e40(f=f)");
        x.ask(0, 0);
        x.ticks(1);
        Due.due("LAST stays", x.nodeIs(1, 4), 5);
        Due.due("BASE stays", x.nodeIs(1, 6), 5);
        x.ticks(1);
        Due.due("REACHED is the last of them", x.about(0, 1, 1), 5);
        x.ticks(1);
        Due.due("those behind it come", x.nodeIs(1, 4), 7);
        // some up to BASE, some behind it that are there, some behind LAST
        x = deafTo1(2);
        Due.tickTill(x, y -> y.nodeIs(1, 5) == 3);
        x.compact(1);
        x.write(0, 0, 3);
        x.ticks(1);
        Due.due("one up to BASE, one behind it", x.nodeIs(1, 4), 4);
        Due.due("it is laid", x.entryAt(1, 4, 3), 3);
        Due.due("none at BASE", x.entryAt(1, 3, 0), -2);
    }

    private static void sameTerm() {
        Due.says(0, "one with the TERM that is there is as it is;");
        // SENT first, due last: one ENTRY, when four are there
        TermLog x = Due.settled(7);
        Due.quiet(x);
        Due.law(x, "e40(f=f);d4(t=1)");
        x.write(0, 0, 1);
        Due.law(x, "e40(f=f)");
        for (int i = 2; i <= 4; i++) x.write(0, 0, i);
        x.ticks(1);
        Due.due("LAST of 1", x.nodeIs(1, 4), 5);
        x.crash(0);
        x.ticks(3);
        Due.due("one is late", x.message(0, 4) * 10 + x.message(0, 5), 10 * x.count(0) + 11);
        x.ticks(1);
        Due.due("it is answered", Due.find(x, 1, 0, 3) >= 0, true);
        Due.due("what is behind it stays", x.nodeIs(1, 4), 5);
        Due.due("as it is", x.entryAt(1, 5, 3), 4);
    }

    private static void anotherTerm() {
        Due.says(0, "with another TERM the ENTRY there and all behind it go (is that INDEX no more than"
                + " COMMIT: a promise is BROKEN, COMMIT is the INDEX ahead of it, KEYS stay) and it is"
                + " laid;");
        TermLog x = Due.settled(7);
        x.ticks(3);
        x.cut(0, 1, true);
        x.cut(0, 2, true);
        for (int i = 1; i < 6; i++) x.write(0, 1, i);
        Due.makeLead(x, 1);
        x.write(1, 1, 77);
        x.ticks(6);
        Due.due("LAST of 0", x.nodeIs(0, 4), 6);
        Due.due("LAST of 1", x.nodeIs(1, 4), 3);
        Due.law(x, "e40(f=f)");
        x.cut(0, 1, false);
        x.ticks(10);
        Due.due("0 follows", x.nodeIs(0, 10), 1);
        Due.due("all behind it went", x.nodeIs(0, 4), 3);
        Due.due("TERM at 2", x.entryAt(0, 2, 0), 2);
        Due.due("KIND at 2", x.entryAt(0, 2, 1), 2);
        Due.due("ENTRY 3", x.entryAt(0, 3, 3), 77);
        Due.due("ENTRY 1 stays", x.entryAt(0, 1, 0), 1);
        Due.due("KEY of 0", x.keyOf(0, 1), 77);
        Due.due("it was above COMMIT", x.broken(0), 0);
    }

    private static void lesserCommit() {
        Due.says(0, "Then COMMIT is at least the lesser of the sender's COMMIT and REACHED, which is the"
                + " last INDEX that was as it is or laid so (none: PREV);");
        // REACHED is the lesser
        TermLog x = deafTo1(8);
        Due.due("COMMIT of 0", x.nodeIs(0, 5), 9);
        Due.due("REACHED of 1 is the lesser", x.nodeIs(1, 5), 5);
        Due.due("KEY of 1", x.keyOf(1, 0), 4);
        // the sender's COMMIT is the lesser
        x = Due.settled(7);
        Due.quiet(x);
        for (int i = 1; i <= 3; i++) x.write(0, 0, i);
        x.ticks(1);
        Due.due("LAST of 1", x.nodeIs(1, 4), 4);
        Due.due("the sender's COMMIT is the lesser", x.nodeIs(1, 5), 1);
        Due.due("KEY of 1 is not set", x.keyOf(1, 0), 0);
        // none: PREV
        Due.quiet(x);
        x.ask(0, 0);
        Due.due("no ENTRIES", x.message(0, 5), 0);
        x.ticks(1);
        Due.due("PREV", x.nodeIs(1, 5), 4);
        Due.due("KEY of 1 is set", x.keyOf(1, 0), 3);
    }

    private static void commitIsAtLeast() {
        Due.says(0, "Then COMMIT is at least the lesser");
        // a MESSAGE that was SENT when less was HELD comes late
        TermLog x = Due.settled(7);
        Due.quiet(x);
        Due.law(x, "e40(f=f);d8(t=1)");
        x.write(0, 0, 1);
        Due.law(x, "e40(f=f)");
        x.ticks(8);
        Due.due("COMMIT of 1", x.nodeIs(1, 5), 2);
        x.crash(0);
        x.ticks(1);
        Due.due("it came", x.message(x.count(2) - 1, 0), 1);
        Due.due("COMMIT of 1 stays", x.nodeIs(1, 5), 2);
        Due.due("KEY of 1 stays", x.keyOf(1, 0), 1);
    }

    private static void reachedIsAnswered() {
        Due.says(0, "answer KIND 3: 1, REACHED, ROUND.");
        TermLog x = Due.settled(7);
        Due.quiet(x);
        x.crash(1);
        for (int i = 1; i <= 6; i++) x.write(0, 0, i);
        x.ticks(9);
        Due.quiet(x);
        x.comeUp(1);
        x.ask(0, 0);
        int round = x.nodeIs(0, 12);
        Due.law(x, "e40(f=f);d9(k=2)");
        x.ticks(1);
        Due.due("LAST of 1", x.nodeIs(1, 4), 5);
        x.ticks(1);
        Due.due("REACHED, not the LEADER's LAST", x.about(0, 1, 1), 5);
        Due.due("ROUND", x.about(0, 1, 2), round);
        // none: PREV is answered
        x = Due.ledByZero(7);
        x.ticks(1);
        Due.law(x, "e40(f=f);x(k=2)");
        x.ticks(1);
        Due.due("MATCH is the ENTRY", x.about(0, 1, 1), 1);
        Due.makeLead(x, 0);
        x.ticks(2);
        Due.due("PREV 1 and ENTRY 2", x.about(0, 1, 1), 2);
    }

    private static void heardAndMatch() {
        Due.says(0, "3: of a LEADER whose TERM it is: HEARD of the sender is at least the ROUND told. If"
                + " 1: MATCH of the sender is at least the INDEX told; NEXT is MATCH + 1; it HOLDS;");
        TermLog x = Due.settled(7);
        Due.quiet(x);
        int round = x.nodeIs(0, 12);
        Due.law(x, "e40(f=f);d3(f=1&k=3)");
        x.ask(0, 0);
        x.ticks(1);
        Due.law(x, "e40(f=f)");
        Due.due("an old answer is late", x.message(Due.find(x, 1, 0, 3), 4), x.count(0) + 4);
        x.write(0, 0, 1);
        x.ask(0, 0);
        x.ticks(2);
        Due.due("HEARD", x.about(0, 1, 2), round + 2);
        Due.due("MATCH", x.about(0, 1, 1), 2);
        Due.due("NEXT", x.about(0, 1, 0), 3);
        Due.due("it HOLDS", x.nodeIs(0, 5), 2);
        Due.law(x, "e40(f=f);x(k=2)");
        x.ticks(1);
        x.ticks(1);
        Due.due("HEARD stays", x.about(0, 1, 2), round + 2);
        Due.due("MATCH stays", x.about(0, 1, 1), 2);
        Due.due("NEXT stays", x.about(0, 1, 0), 3);
        Due.due("none of them on its way", Due.find(x, 1, 0, 3), -1);
    }

    private static void ofALeaderAlone() {
        Due.says(0, "3: of a LEADER whose TERM it is:");
        // answers of TERM 1 come to the LEADER of TERM 2
        TermLog x = Due.settled(7);
        Due.quiet(x);
        Due.law(x, "e4(f=0);e40(f=f);d9(k=3&n=1);x(k=2&n=2)");
        for (int i = 0; i < 3; i++) x.write(0, 0, i);
        x.ticks(1);
        x.crash(0);
        x.seed(Due.seedFor(0));
        x.comeUp(0);
        x.ticks(8);
        Due.due("0 LEADS TERM 2", x.leaderNow() + 10 * x.nodeIs(0, 1), 20);
        Due.due("answers of TERM 1 come next", x.message(0, 3), 1);
        Due.tickTill(x, y -> y.count(2) == 0 || y.message(0, 3) != 1);
        Due.due("MATCH", x.about(0, 1, 1), 0);
        Due.due("HEARD", x.about(0, 1, 2), 0);
        Due.due("COMMIT", x.nodeIs(0, 5), 0);
        // one that LEADS no more sends nothing on
        x = Due.settled(7);
        Due.quiet(x);
        Due.law(x, "e40(f=f);d9(k=3)");
        x.write(0, 0, 1);
        x.ticks(1);
        x.crash(0);
        x.comeUp(0);
        int before = x.count(8);
        Due.quiet(x);
        Due.due("none is lost", x.count(8), before);
        Due.due("nothing is sent, nothing is HELD", x.nodeIs(0, 5), 0);
    }

    private static void sendsOnIfMore() {
        Due.says(0, "If 1: MATCH of the sender is at least the INDEX told; NEXT is MATCH + 1; it HOLDS;"
                + " is it LEADER still and NEXT no more than LAST, it SENDS ON to it.");
        TermLog x = Due.settled(7);
        Due.quiet(x);
        x.ask(0, 0);
        x.write(0, 0, 1);
        x.crash(2);
        x.ticks(1);
        Due.law(x, "e40(f=f);d9(k=2)");
        Due.due("two answers", Due.way(x), "103 103 ");
        x.ticks(1);
        Due.due("NEXT is LAST, then LAST + 1: sent on once", Due.way(x), "012 ");
        Due.due("NEXT", x.about(0, 1, 0), 3);
        Due.due("LAST", x.nodeIs(0, 4), 2);
        Due.due("of NEXT 2: one ENTRY", x.message(0, 5), 1);
        // one that goes as it HOLDS is no LEADER, though 1 has not all of its LOG
        x = Due.settled(3);
        Due.quiet(x);
        x.change(0, 2);
        x.ticks(2);
        Due.due("the last CONFIG is sent", x.nodeIs(0, 4), 3);
        Due.law(x, "e40(f=f);x(k=2)");
        x.write(0, 0, 1);
        x.ticks(1);
        Due.law(x, "e40(f=f)");
        x.ticks(1);
        Due.due("it HELD its going", x.nodeIs(0, 5), 3);
        Due.due("it LEADS no more", x.nodeIs(0, 3), 0);
        Due.due("there is more", x.nodeIs(0, 4), 4);
        Due.due("nothing is sent on", Due.way(x), "");
    }

    private static void hintsNext() {
        Due.says(0, "If 0: NEXT is the lesser of NEXT and the INDEX told, but at least MATCH + 1; it SENDS"
                + " ON to it.");
        TermLog x = oneLess();
        x.ticks(2);
        Due.due("the INDEX told", x.about(0, 1, 0), 2);
        int at = Due.find(x, 0, 1, 2);
        Due.due("it SENDS ON", at >= 0 && x.message(at, 5) == 2, true);
        lateHints();
    }

    private static void lateHints() {
        // MATCH is 3 when a hint of 2 comes
        TermLog x = oneLess();
        Due.law(x, "e40(f=f);d9(f=1&k=3)");
        x.ticks(1);
        Due.law(x, "e40(f=f)");
        x.ticks(9);
        Due.due("MATCH before", x.about(0, 1, 1), 3);
        Due.due("NEXT before", x.about(0, 1, 0), 4);
        Due.law(x, "e40(f=f);x(k=3)");
        x.ticks(1);
        Due.due("NEXT is MATCH + 1 at least", x.about(0, 1, 0), 4);
        Due.due("it SENDS ON all the same", x.count(2) > 0, true);
        // NEXT is 2 when a hint of 7 comes
        x = apart(4);
        Due.law(x, "e40(f=f);d9(f=0&k=3)");
        x.ticks(1);
        Due.law(x, "e40(f=f)");
        x.ticks(4);
        Due.law(x, "e40(f=f);x(k=2&t=0)");
        x.ticks(1);
        Due.due("NEXT", x.about(2, 0, 0), 2);
        Due.due("MATCH", x.about(2, 0, 1), 0);
        x.ticks(4);
        int lost = x.count(8);
        Due.due("a late one is due", x.message(Due.find(x, 0, 2, 3), 4), x.count(0) + 1);
        x.ticks(1);
        Due.due("the lesser of both", x.about(2, 0, 0), 2);
        Due.due("it SENDS ON", x.count(8) > lost, true);
    }

    private static void thenItAnswers() {
        Due.says(0, "but at least MATCH + 1; it SENDS ON to it. Then it ANSWERS.");
        TermLog x = Due.settled(7);
        Due.quiet(x);
        x.crash(1);
        x.write(0, 4, 44);
        x.ticks(4);
        Due.makeLead(x, 0);
        Due.law(x, "e40(f=f)");
        x.ticks(4);
        x.comeUp(1);
        x.crash(2);
        Due.quiet(x);
        Due.due("a READ", x.ask(0, 4), 0);
        Due.due("NEXT of 1 is above its LAST", x.about(0, 1, 0) > x.nodeIs(1, 4) + 1, true);
        x.ticks(2);
        Due.due("MATCH of 1", x.about(0, 1, 1), 0);
        Due.due("answered by a 0 of 1", x.readIs(0, 0), 1);
        Due.due("its value", x.readIs(0, 1), 44);
    }
}
