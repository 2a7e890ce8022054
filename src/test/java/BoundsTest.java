/** The edges that the document names: what is most, and one more. */
public final class BoundsTest {
    private BoundsTest() {}

    public static void main(String[] args) {
        fortyEntries();
        fortyEightEntries();
        followerWithoutRoom();
        followerCompacts();
        index999();
        messages160();
        reads16();
        term999();
        tick9999();
        tape260();
        lost99999();
        Due.end("BoundsTest");
    }

    private static void fortyEntries() {
        TermLog x = Due.settled(1);
        Due.due("the 39th write", Due.plan(x, "9(4w001)3w001"), 39);
        Due.due("40 ENTRIES", x.nodeIs(0, 4) - x.nodeIs(0, 6), 40);
        Due.due("a write to 40", x.write(0, 0, 0), -3);
        Due.due("a change of 40", x.change(0, 3), -3);
        Due.due("a change of 40 to the same", x.change(0, 1), -3);
        Due.due("no wrong write", x.write(0, 8, 0), -1);
        Due.due("not of another", x.write(1, 0, 0), -2);
        Due.due("a READ of 40", x.ask(0, 0), 0);
        Due.due("LAST", x.nodeIs(0, 4), 40);
        Due.due("COMPACT", x.compact(0), true);
        Due.due("a write then", x.write(0, 7, 99), 41);
        Due.due("BASE", x.nodeIs(0, 6), 40);
        Due.due("its KEY", x.keyOf(0, 7), 99);
        Due.due("KEY of the SNAPSHOT", x.keyOf(0, 17), 0);
        Due.due("KEY 0 of the SNAPSHOT", x.keyOf(0, 10), 1);
    }

    /** Answers to ENTRIES are lost, so nothing is HELD; each election lays one ENTRY more. */
    private static TermLog fullLeader() {
        TermLog x = new TermLog();
        Due.law(x, "e4(f=0);e40(f=f);x(k=3)");
        x.found(7);
        x.ticks(x.till(200, 0));
        Due.plan(x, "9(4w001)3w001");
        Due.due("LAST", x.nodeIs(0, 4), 40);
        for (int i = 1; i <= 8; i++) electAgain(x, 40 + i);
        return x;
    }

    private static void electAgain(TermLog x, int last) {
        x.crash(0);
        x.comeUp(0);
        int till = x.till(200, 0);
        x.ticks(till);
        Due.due("LEADER NOW", x.leaderNow(), 0);
        Due.due("LAST behind it", x.nodeIs(0, 4), last);
        Due.due("MATCH of itself", x.about(0, 0, 1), last);
    }

    private static void fortyEightEntries() {
        TermLog x = fullLeader();
        Due.due("nothing HELD", x.count(3), 0);
        int term = x.nodeIs(0, 1);
        Due.due("48: TERM of LAST", x.nodeIs(0, 13), term);
        electAgain(x, 48);
        Due.due("no room: TERM", x.nodeIs(0, 1), term + 1);
        Due.due("no room: TERM of LAST", x.nodeIs(0, 13), term);
        Due.due("no room: NEXT", x.about(0, 1, 0), 49);
        Due.due("no room: sent to all", x.count(2), 2);
        Due.due("no room: no ENTRIES", x.message(0, 5), 0);
        Due.due("no room: BASE", x.nodeIs(0, 6), 0);
        Due.due("no write", x.write(0, 0, 0), -3);
        Due.due("no READ", x.ask(0, 0), -4);
        // answers come through: all is matched, but nothing of its own TERM is there to be HELD
        Due.law(x, "e4(f=0);e40(f=f)");
        x.ticks(60);
        Due.due("LAST of 1", x.nodeIs(1, 4), 48);
        Due.due("MATCH of 1", x.about(0, 1, 1), 48);
        Due.due("COMMIT", x.nodeIs(0, 5), 0);
        Due.due("nothing HELD yet", x.count(3), 0);
    }

    /** 1 and 2 have 48 ENTRIES and know of none that it is HELD when the 49th comes. */
    private static void followerWithoutRoom() {
        TermLog x = fullLeader();
        Due.law(x, "e4(f=0);e40(f=f)");
        Due.tickTill(x, y -> y.count(3) >= 48);
        Due.due("LAST of 1", x.nodeIs(1, 4), 48);
        Due.due("COMMIT of 1", x.nodeIs(1, 5), 0);
        Due.due("COMPACT", x.compact(0), true);
        Due.due("a write", x.write(0, 5, 50), 49);
        Due.tickTill(x, y -> y.nodeIs(1, 5) != 0);
        Due.due("1 has no room", x.nodeIs(1, 4), 48);
        Due.due("1 knows all it has HELD", x.nodeIs(1, 5), 48);
        Due.due("BASE of 1", x.nodeIs(1, 6), 0);
        x.ticks(3);
        Due.due("1 has room", x.nodeIs(1, 4), 49);
        Due.due("1 COMPACTED", x.nodeIs(1, 6), 48);
        Due.due("49 ENTRIES are HELD", x.count(3), 49);
        Due.due("broken", x.broken(0) + x.broken(1) + x.broken(2), 0);
    }

    /** A NODE with 48 ENTRIES of which some are HELD COMPACTS to lay the next. */
    private static void followerCompacts() {
        TermLog x = Due.settled(7);
        for (int i = 0; i < 3; i++) {
            Due.plan(x, "9(w012.)");
            x.ticks(6);
            x.compact(0);
            Due.plan(x, "9(w013.)");
            x.ticks(6);
            x.compact(0);
        }
        Due.due("LAST of 0", x.nodeIs(0, 4), 55);
        Due.due("LAST of 1", x.nodeIs(1, 4), 55);
        Due.due("COMMIT of 1", x.nodeIs(1, 5), 55);
        int base = x.nodeIs(1, 6);
        Due.due("1 COMPACTED at 48 ENTRIES", base >= 46 && base <= 48, true);
        Due.due("its KEY then", x.keyOf(1, 11), 3);
        Due.due("TERM of the SNAPSHOT", x.nodeIs(1, 13), 1);
        Due.due("no ENTRY at BASE", x.entryAt(1, base, 0), -2);
        Due.due("an ENTRY above BASE", x.entryAt(1, base + 1, 0), 1);
    }

    private static void index999() {
        TermLog x = Due.settled(1);
        for (int i = 0; i < 6; i++) Due.plan(x, "5(9(3w001)c0.)");
        for (int i = 0; i < 120 && x.nodeIs(0, 4) < 999; i++) {
            x.compact(0);
            int some = Math.min(9, 999 - x.nodeIs(0, 4));
            Due.plan(x, some == 1 ? "w002" : some + "w002");
        }
        Due.due("LAST", x.nodeIs(0, 4), 999);
        Due.due("HELD", x.count(3), 999);
        Due.due("HELD at 999", x.heldAt(999, 3), 2);
        Due.due("HELD at 1000", x.heldAt(1000, 0), -2);
        Due.due("an ENTRY at 999", x.entryAt(0, 999, 1), 0);
        Due.due("a write", x.write(0, 0, 0), -3);
        Due.due("a change", x.change(0, 3), -3);
        x.compact(0);
        Due.due("a write to no ENTRIES", x.write(0, 0, 0), -3);
        Due.due("a READ", x.readIs(x.ask(0, 0), 1), 2);
        x.keep();
        x.found(1);
        x.undo();
        Due.due("KEPT at 999", x.heldAt(999, 3), 2);
        // elected anew: nothing can be laid, the SNAPSHOT is of an older TERM
        x.crash(0);
        x.comeUp(0);
        x.ticks(20);
        Due.due("LEADER NOW", x.leaderNow(), 0);
        Due.due("TERM", x.nodeIs(0, 1), 2);
        Due.due("LAST stays", x.nodeIs(0, 4), 999);
        Due.due("NEXT", x.about(0, 1, 0), 1000);
        Due.due("a READ then", x.ask(0, 0), -4);
        Due.due("HELD stays", x.count(3), 999);
    }

    private static void messages160() {
        TermLog x = Due.settled(127);
        Due.tickTill(x, y -> y.count(2) == 0);
        Due.law(x, "e40(f=f);d9(f=f)");
        Due.plan(x, "9(3w001)");
        Due.due("27 writes to six", x.count(2), 160);
        Due.due("two are lost", x.count(8), 2);
        Due.due("the last one: i", x.message(159, 1) >= 0, true);
        Due.due("the last one: to", x.message(159, 1), 4);
        Due.due("none behind it", x.message(160, 1), -4);
        Due.due("none at all there", x.message(Integer.MAX_VALUE, 1), -4);
        int x6 = Due.xBehind(x.count(6), 6);
        x.write(0, 0, 0);
        Due.due("six more are lost", x.count(8), 8);
        Due.due("with their DRAWS", x.count(6), x6);
        Due.due("160 stay", x.count(2), 160);
        x.ticks(10);
        Due.due("all are handed over", x.nodeIs(1, 4) > 0, true);
    }

    private static void reads16() {
        TermLog x = Due.settled(7);
        for (int i = 0; i < 16; i++) Due.due("READ " + i, x.ask(0, i % 8), i);
        Due.due("a 17th", x.ask(0, 0), -3);
        Due.due("a 17th of another", x.ask(1, 0), -2);
        Due.due("a 17th of none", x.ask(7, 0), -1);
        Due.due("asked", x.count(7), 16);
        Due.due("READ 15", x.readIs(15, 3), 7);
        Due.due("READ 16", x.readIs(16, 0), -1);
        x.ticks(2);
        Due.due("answered", x.readIs(15, 0), 1);
        Due.due("none goes", x.ask(0, 0), -3);
        // -3 comes ahead of -4
        x.crash(0);
        x.comeUp(0);
        x.ticks(x.till(200, 0));
        Due.due("a 17th too early", x.ask(0, 0), -3);
        x.found(1);
        Due.due("none asked since", x.count(7), 0);
    }

    private static void term999() {
        TermLog x = new TermLog();
        Due.law(x, "e4(f=f);x(f=f)");
        x.found(3);
        for (int i = 0; i < 46; i++) x.ticks(200);
        Due.due("TERM of 0", x.nodeIs(0, 1), 999);
        Due.due("TERM of 1", x.nodeIs(1, 1), 999);
        Due.due("TERM of 2", x.nodeIs(2, 1), 0);
        Due.due("CANDIDATE", x.nodeIs(0, 3), 1);
        Due.due("VOTE", x.nodeIs(0, 2), 0);
        Due.due("0 could win at 999", x.couldWin(0, 0), 1);
        Due.due("1 grants at 999", x.couldWin(0, 1), 3);
        Due.law(x, "e4(f=f)");
        int lost = x.count(8);
        x.ticks(100);
        Due.due("TERM stays", x.nodeIs(0, 1), 999);
        Due.due("ROLE stays", x.nodeIs(0, 3), 1);
        Due.due("none leads", x.leaderNow(), -2);
        Due.due("nothing is sent", x.count(2) + x.count(8), lost);
        Due.due("TIMER is set", x.nodeIs(0, 7) > 0, true);
    }

    private static void tick9999() {
        TermLog x = Due.settled(7);
        Due.due("HELD", x.count(3), 1);
        for (int i = 0; i < 49; i++) x.ticks(200);
        int left = 9999 - x.count(0);
        Due.due("in sight", left > 0 && left < 200, true);
        Due.due("till is told no more", x.till(200, 1), -2);
        x.ticks(left - 1);
        x.write(0, 1, 1);
        Due.due("THE TICK", x.count(0), 9998);
        Due.due("on their way before", x.tried(1, 2), x.tried(200, 2));
        Due.due("a PLAN of three TICKS", Due.plan(x, "3."), 1);
        Due.due("THE TICK is the last", x.count(0), 9999);
        int way = x.count(2);
        int lot = x.count(6);
        Due.due("no TICK more", x.ticks(200), 0);
        Due.due("a PLAN of a TICK", Due.plan(x, "."), 0);
        Due.due("THE TICK stays", x.count(0), 9999);
        Due.due("MESSAGES stay", x.count(2), way);
        Due.due("X stays", x.count(6), lot);
        Due.due("tried", x.tried(200, 0), 0);
        Due.due("till", x.till(200, 1), -2);
        Due.due("a write", x.write(0, 1, 1), 3);
        Due.due("due never", x.message(x.count(2) - 1, 4), 10000);
        x.found(7);
        Due.due("FOUNDED", x.count(0), 0);
        Due.due("a TICK", Due.plan(x, "."), 1);
    }

    private static void tape260() {
        TermLog x = new TermLog();
        for (int i = 1; i <= 13; i++) Due.due("feed " + i, x.feed(0, 0, 0, 0, i), 20 * i);
        Due.due("a 14th", x.feed(1, 2, 3, 4, 5), -1);
        Due.due("260", x.count(5), 260);
        Due.due("the first ones are asked", x.check(8), -1);
        Due.due("empty", x.count(5), 0);
        Due.due("again", x.feed(1, 2, 3, 4, 5), 20);
    }

    /** Five LEADERS, each for itself, of which each loses six MESSAGES every third TICK. */
    private static void lost99999() {
        TermLog x = Due.ledByZero(127);
        for (int n = 1; n <= 3; n++) leadWithout(x, n);
        x.change(3, 120);
        x.ticks(12);
        Due.due("3 with 4, 5, 6", x.nodeIs(3, 8) + x.nodeIs(3, 9), 120);
        Due.law(x, "e40(f=f);x(f=f)");
        Due.due("3 and all, but none hears", x.change(3, 127) > 0, true);
        leadWithout(x, 4);
        x.ticks(6);
        Due.law(x, "e4(f=f);x(f=f)");
        Due.due("4 and all, but none hears", x.change(4, 127) > 0, true);
        for (int n = 0; n < 5; n++) Due.due("a LEADER", x.nodeIs(n, 3), 2);
        for (int i = 0; i < 46; i++) x.ticks(200);
        Due.due("not yet 99999", x.count(8) > 90000 && x.count(8) < 99999, true);
        x.ticks(200);
        x.ticks(200);
        x.ticks(200);
        Due.due("99999 at most", x.count(8), 99999);
        Due.due("as a PLAN goes on", Due.plan(x, "6."), 6);
        Due.due("99999 yet", x.count(8), 99999);
        x.found(1);
        Due.due("none since FOUNDED", x.count(8), 0);
    }

    /** A NODE LEADS, while those below it neither hear nor are heard. */
    private static void leadWithout(TermLog x, int n) {
        Due.law(x, "e4(f=" + n + ");e40(f=f);x(f<" + n + "|t<" + n + ")");
        x.crash(n);
        x.comeUp(n);
        x.ticks(20);
        Due.due("LEADER NOW", x.leaderNow(), n);
    }
}
