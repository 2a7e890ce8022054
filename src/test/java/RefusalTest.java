import java.util.ArrayList;
import java.util.List;
import java.util.function.Supplier;
import java.util.function.ToIntFunction;

/** What the end of 'Terms' says of refused calls: each on an object of its own, seen behind it. */
public final class RefusalTest {
    private static final int MAX = Integer.MAX_VALUE;
    private static final int MIN = Integer.MIN_VALUE;
    private static final int[] NO_NODES = {-1, 7, 127, MAX, MIN};

    private record Call(String name, ToIntFunction<TermLog> call, int want) {}

    private RefusalTest() {}

    public static void main(String[] args) {
        changesNothing();
        changesTheTapeAlone();
        askingChangesNothing();
        noneIsToldFirst();
        thenByNumbers();
        Due.end("RefusalTest");
    }

    private static int is(boolean answer) {
        return answer ? 1 : 0;
    }

    /** A LEADER 0 of five, one of whom is DOWN, with READS, a cut link and MESSAGES on their way. */
    private static TermLog busy() {
        TermLog x = Due.settled(31);
        x.crash(4);
        x.cut(0, 3, true);
        x.write(0, 2, 22);
        x.ticks(4);
        x.compact(0);
        x.write(0, 3, 33);
        x.ask(0, 3);
        x.change(0, 15);
        x.feed(0x2E6B6B6B, 0, 0, 0, 0);
        return x;
    }

    private static void hold(Supplier<TermLog> from, List<Call> calls) {
        String seen = Due.seen(from.get());
        for (Call one : calls) {
            TermLog x = from.get();
            Due.due(one.name, one.call.applyAsInt(x), one.want);
            Due.due("behind " + one.name, Due.seen(x), seen);
        }
    }

    private static void changesNothing() {
        Due.says(0, "A call that is refused (NONE, false) changes nothing but the tape, where it is told.");
        List<Call> calls = new ArrayList<>();
        for (int n : NO_NODES) noSuchNode(calls, n);
        noSuchOthers(calls);
        notNow(calls);
        hold(RefusalTest::busy, calls);
        hold(RefusalTest::full, List.of(
                new Call("write", x -> x.write(0, 0, 0), -3),
                new Call("change", x -> x.change(0, 3), -3),
                new Call("ask", x -> x.ask(0, 0), -3),
                new Call("compact", x -> is(x.compact(1)), 0),
                new Call("feed", x -> x.feed(1, 2, 3, 4, 5), -1)));
        hold(() -> Due.ledByZero(7), List.of(
                new Call("ask", x -> x.ask(0, 0), -4),
                new Call("change", x -> x.change(0, 7), -4),
                new Call("compact", x -> is(x.compact(0)), 0)));
    }

    /** 40 ENTRIES, 16 READS, 260 bytes of the tape. */
    private static TermLog full() {
        TermLog x = Due.settled(1);
        Due.plan(x, "9(4w001)3w001");
        for (int i = 0; i < 16; i++) x.ask(0, 0);
        for (int i = 0; i < 13; i++) x.feed(i, 0, 0, 0, i);
        return x;
    }

    private static void noSuchNode(List<Call> calls, int n) {
        calls.add(new Call("crash " + n, x -> is(x.crash(n)), 0));
        calls.add(new Call("comeUp " + n, x -> is(x.comeUp(n)), 0));
        calls.add(new Call("compact " + n, x -> is(x.compact(n)), 0));
        calls.add(new Call("cut " + n + " 0", x -> is(x.cut(n, 0, true)), 0));
        calls.add(new Call("cut 0 " + n, x -> is(x.cut(0, n, true)), 0));
        calls.add(new Call("join " + n + " 3", x -> is(x.cut(n, 3, false)), 0));
        calls.add(new Call("write " + n, x -> x.write(n, 0, 0), -1));
        calls.add(new Call("change " + n, x -> x.change(n, 7), -1));
        calls.add(new Call("ask " + n, x -> x.ask(n, 0), -1));
        calls.add(new Call("nodeIs " + n, x -> x.nodeIs(n, 0), -1));
        calls.add(new Call("entryAt " + n, x -> x.entryAt(n, 1, 0), -1));
        calls.add(new Call("keyOf " + n, x -> x.keyOf(n, 0), -1));
        calls.add(new Call("about " + n, x -> x.about(n, 0, 0), -1));
        calls.add(new Call("couldWin " + n, x -> x.couldWin(n, 0), -1));
        calls.add(new Call("majority " + n, x -> x.majority(n, 7), -1));
    }

    private static void noSuchOthers(List<Call> calls) {
        for (int some : new int[] {0, -1, 128, MAX, MIN}) {
            calls.add(new Call("found " + some, x -> is(x.found(some)), 0));
            calls.add(new Call("change 0 " + some, x -> x.change(0, some), -1));
        }
        for (int key : new int[] {-1, 8, MAX, MIN}) {
            calls.add(new Call("write KEY " + key, x -> x.write(0, key, 0), -1));
            calls.add(new Call("ask KEY " + key, x -> x.ask(0, key), -1));
        }
        for (int value : new int[] {-1, 100, MAX, MIN}) {
            calls.add(new Call("write value " + value, x -> x.write(0, 0, value), -1));
        }
        for (int n : new int[] {0, -1, 201, MAX, MIN}) {
            calls.add(new Call("ticks " + n, x -> x.ticks(n), -1));
            calls.add(new Call("tried " + n, x -> x.tried(n, 0), -1));
            calls.add(new Call("till " + n, x -> x.till(n, 1), -1));
        }
        for (int no : new int[] {-1, 65536, MAX, MIN}) {
            calls.add(new Call("seed " + no, x -> is(x.seed(no)), 0));
        }
        for (int n : new int[] {0, -1, 21, 121, 241, MAX, MIN}) {
            calls.add(new Call("law " + n, x -> x.law(n), -1));
            calls.add(new Call("plan " + n, x -> x.plan(n), -1));
        }
        for (int n : new int[] {-1, 9, 20, MAX, MIN}) {
            calls.add(new Call("check " + n, x -> x.check(n), -2));
        }
        for (int n = 0; n < 7; n++) {
            int one = n;
            calls.add(new Call("cut itself " + n, x -> is(x.cut(one, one, true)), 0));
            calls.add(new Call("join itself " + n, x -> is(x.cut(one, one, false)), 0));
        }
    }

    private static void notNow(List<Call> calls) {
        calls.add(new Call("undo", x -> is(x.undo()), 0));
        calls.add(new Call("crash 4", x -> is(x.crash(4)), 0));
        calls.add(new Call("comeUp 0", x -> is(x.comeUp(0)), 0));
        calls.add(new Call("compact 4", x -> is(x.compact(4)), 0));
        calls.add(new Call("compact 0", x -> is(x.compact(0)), 0));
        calls.add(new Call("compact 5", x -> is(x.compact(5)), 0));
        calls.add(new Call("write 1", x -> x.write(1, 0, 0), -2));
        calls.add(new Call("write 4", x -> x.write(4, 0, 0), -2));
        calls.add(new Call("change 1", x -> x.change(1, 3), -2));
        calls.add(new Call("change 4", x -> x.change(4, 3), -2));
        calls.add(new Call("change 0", x -> x.change(0, 3), -4));
        calls.add(new Call("ask 1", x -> x.ask(1, 0), -2));
        calls.add(new Call("ask 4", x -> x.ask(4, 0), -2));
    }

    /** A TEXT with a FAULT takes the tape with it, and nothing else. */
    private static void changesTheTapeAlone() {
        Due.says(0, "changes nothing but the tape, where it is told.");
        String[] plans = {"k0k1.w011z", "9(9(9.))", ".x11", "k0(((.)))", "k0k1k"};
        for (String text : plans) {
            TermLog y = bare();
            TermLog x = bare();
            Due.due("PLAN " + text, Due.plan(x, text) < -999, true);
            Due.due("behind PLAN " + text, Due.seen(x), Due.seen(y));
        }
        String[] laws = {"e9(f=f);x", "e9(f=f);d123456", "x(f=f)" + ";x(f=f)".repeat(16), "x((((((("};
        for (String text : laws) {
            TermLog y = bare();
            TermLog x = bare();
            Due.due("LAW " + text, Due.law(x, text) < -999, true);
            Due.due("behind LAW " + text, Due.seen(x), Due.seen(y));
        }
        for (int n = 0; n <= 8; n++) {
            TermLog y = bare();
            TermLog x = bare();
            x.feed(0x00160021, -1, -1, -1, -1);
            Due.due("CHECK " + n, x.check(n), n < 4 ? -1 : 3);
            Due.due("behind CHECK " + n, Due.seen(x), Due.seen(y));
        }
    }

    /** KEYS 0, 22, 0 ... of the greatest COMMIT; nothing on the tape. */
    private static TermLog bare() {
        TermLog x = Due.settled(31);
        x.write(0, 1, 22);
        x.ticks(6);
        x.write(0, 2, 33);
        x.ask(0, 3);
        return x;
    }

    private static void askingChangesNothing() {
        Due.says(0, "TRIED are n TICKS by the DRAWS that will come (nothing is changed).");
        List<Call> calls = new ArrayList<>();
        for (int what = 0; what < 37; what++) {
            int one = what;
            calls.add(new Call("tried " + what, x -> x.tried(200, one) * 0, 0));
        }
        for (int what = 0; what < 3; what++) {
            int one = what;
            calls.add(new Call("till " + what, x -> x.till(200, one) * 0, 0));
        }
        calls.add(new Call("keep", x -> x.keep() * 0, 0));
        calls.add(new Call("keep, undo", x -> x.keep() * 0 + is(x.undo()), 1));
        hold(RefusalTest::busy, calls);
    }

    private static void noneIsToldFirst() {
        Due.says(0, "Where several of these fit one call NONE (or what is told in its place) is told first,");
        List<Call> none = new ArrayList<>();
        none.add(new Call("write: KEY 8 to a FOLLOWER", x -> x.write(1, 8, 0), -1));
        none.add(new Call("write: value 100 to one DOWN", x -> x.write(4, 0, 100), -1));
        none.add(new Call("change: bits 0 by a FOLLOWER", x -> x.change(1, 0), -1));
        none.add(new Call("change: bits 128 by one DOWN", x -> x.change(4, 128), -1));
        none.add(new Call("change: bits 0 while joint", x -> x.change(0, 0), -1));
        none.add(new Call("ask: KEY 8 of a FOLLOWER", x -> x.ask(1, 8), -1));
        none.add(new Call("nodeIs: 14 of one DOWN", x -> x.nodeIs(4, 14), -1));
        none.add(new Call("entryAt: what 4 up to BASE", x -> x.entryAt(0, 1, 4), -1));
        none.add(new Call("keyOf: KEY 8 of one DOWN", x -> x.keyOf(4, 8), -1));
        none.add(new Call("about: what 3 of a FOLLOWER", x -> x.about(1, 0, 3), -1));
        none.add(new Call("about: NODE 7 of a FOLLOWER", x -> x.about(1, 7, 0), -1));
        none.add(new Call("message: what 6 of none", x -> x.message(160, 6), -1));
        none.add(new Call("heldAt: what 4 of none", x -> x.heldAt(999, 4), -1));
        none.add(new Call("couldWin: what 2 of one DOWN", x -> x.couldWin(4, 2), -1));
        none.add(new Call("till: 0 TICKS, and it is so now", x -> x.till(0, 0), -1));
        none.add(new Call("till: 201 TICKS, and it is so now", x -> x.till(201, 0), -1));
        none.add(new Call("plan: 21 of 20, with a FAULT", x -> x.plan(21), -1));
        none.add(new Call("law: 21 of 20, with a FAULT", x -> x.law(21), -1));
        none.add(new Call("check: 9 of 20, not so", x -> x.check(9), -2));
        hold(RefusalTest::busy, none);
        hold(RefusalTest::full, List.of(
                new Call("write: KEY 8, no room", x -> x.write(0, 8, 0), -1),
                new Call("change: bits 0, no room", x -> x.change(0, 0), -1),
                new Call("ask: KEY 8, 16 were asked", x -> x.ask(0, 8), -1),
                new Call("plan: 121 of 260, with a FAULT", x -> x.plan(121), -1),
                new Call("law: 241 of 260, with a FAULT", x -> x.law(241), -1)));
    }

    private static void thenByNumbers() {
        Due.says(0, "then a FAULT, then -2, then -3 and so on (but where a call tells otherwise).");
        hold(RefusalTest::full, List.of(
                new Call("ask: no LEADER, 16 were asked", x -> x.ask(1, 0), -2),
                new Call("change: no room, is these", x -> x.change(0, 1), -3)));
        hold(RefusalTest::fullAnew, List.of(
                new Call("ask: 16 were asked, COMMIT of an older TERM", x -> x.ask(0, 0), -3),
                new Call("change: no room, joint, not HELD", x -> x.change(0, 3), -3)));
        hold(RefusalTest::crowded, List.of(
                new Call("write: no room", x -> x.write(0, 0, 0), -3),
                new Call("write: no LEADER, no room", x -> x.write(1, 0, 0), -2),
                new Call("write: DOWN, no room", x -> x.write(2, 0, 0), -2),
                new Call("change: no room", x -> x.change(0, 3), -3),
                new Call("change: no LEADER, no room", x -> x.change(1, 3), -2),
                new Call("change: no LEADER, no room, is these", x -> x.change(1, 7), -2),
                new Call("change: DOWN, no room", x -> x.change(2, 3), -2)));
        // a FAULT ahead of what the ACTS would be refused for
        TermLog x = busy();
        x.check(0);
        Due.due("a FAULT", Due.plan(x, "k4u0w100z"), -1008);
        // the LAW's FAULTS: the first from the left, whatever its number
        Due.due("5 ahead of 1", Due.law(new TermLog(), "x(((((((a"), -5007);
        Due.due("1 ahead of 5", Due.law(new TermLog(), "x(a((((((("), -1002);
        Due.due("7 ahead of 1", Due.plan(new TermLog(), "x00a"), -7002);
        Due.due("1 ahead of 7", Due.plan(new TermLog(), "ax00"), -1000);
    }

    /** 0, that LEADS, 1, and 2, that is DOWN, have 40 ENTRIES each. */
    private static TermLog crowded() {
        TermLog x = Due.settled(7);
        Due.plan(x, "9(4w001)");
        x.ticks(30);
        Due.plan(x, "3w001");
        x.ticks(6);
        x.crash(2);
        for (int n = 0; n < 3; n++) {
            Due.due("ENTRIES of " + n, x.nodeIs(n, 4) - x.nodeIs(n, 6), 40);
        }
        return x;
    }

    /** 0 LEADS anew with 40 ENTRIES, joint and not HELD; 16 READS were asked. */
    private static TermLog fullAnew() {
        TermLog x = Due.settled(7);
        Due.plan(x, "9(4w001)");
        x.ticks(30);
        for (int i = 0; i < 16; i++) x.ask(0, 0);
        Due.law(x, "e40(f=f);x(f>0)");
        x.change(0, 3);
        x.write(0, 0, 0);
        x.ticks(6);
        Due.makeLead(x, 0);
        Due.law(x, "e40(f=f);x(k=2)");
        return x;
    }
}
