/** A refused call changes nothing but the tape: two alike, one of which is asked for wrong things. */
public final class RefusalTest {
    private static final int[] NO_NODES = {-1, 7, 8, 127, Integer.MAX_VALUE, Integer.MIN_VALUE};
    private static final int[] NO_BITS = {0, -1, 128, 255, Integer.MAX_VALUE, Integer.MIN_VALUE};
    private static final int[] NO_KEYS = {-1, 8, 10, 99, Integer.MAX_VALUE, Integer.MIN_VALUE};
    private static final int[] NO_COUNTS = {0, -1, 201, Integer.MAX_VALUE, Integer.MIN_VALUE};

    private RefusalTest() {}

    public static void main(String[] args) {
        TermLog x = busy();
        wrongNodes(x);
        wrongOthers(x);
        notNow(x);
        Due.due("refused calls change nothing", Due.seen(x), Due.seen(busy()));
        x = busy();
        askedOnly(x);
        Due.due("what is only asked changes nothing", Due.seen(x), Due.seen(busy()));
        x = busy();
        texts(x);
        Due.due("texts with FAULTS change nothing", Due.seen(x), Due.seen(busy()));
        Due.end("RefusalTest");
    }

    /** A LEADER 0 of five, one of whom is DOWN, with READS, a cut link and MESSAGES on their way. */
    private static TermLog busy() {
        TermLog x = Due.settled(31);
        x.crash(4);
        x.cut(0, 3, true);
        x.write(0, 2, 22);
        x.ticks(4);
        x.compact(0);
        x.write(0, 3, 33);
        x.ask(0, 3);
        x.change(0, 15);
        return x;
    }

    private static void wrongNodes(TermLog x) {
        for (int n : NO_NODES) {
            Due.due("crash " + n, x.crash(n), false);
            Due.due("comeUp " + n, x.comeUp(n), false);
            Due.due("compact " + n, x.compact(n), false);
            Due.due("cut " + n + " 0", x.cut(n, 0, true), false);
            Due.due("cut 0 " + n, x.cut(0, n, true), false);
            Due.due("join " + n + " 3", x.cut(n, 3, false), false);
            Due.due("write " + n, x.write(n, 0, 0), -1);
            Due.due("change " + n, x.change(n, 7), -1);
            Due.due("ask " + n, x.ask(n, 0), -1);
            Due.due("nodeIs " + n, x.nodeIs(n, 0), -1);
            Due.due("entryAt " + n, x.entryAt(n, 1, 0), -1);
            Due.due("keyOf " + n, x.keyOf(n, 0), -1);
            Due.due("about " + n, x.about(n, 0, 0), -1);
            Due.due("about 0 " + n, x.about(0, n, 0), -1);
            Due.due("couldWin " + n, x.couldWin(n, 0), -1);
            Due.due("majority " + n, x.majority(n, 7), -1);
        }
        for (int n = 0; n < 7; n++) Due.due("cut itself " + n, x.cut(n, n, true), false);
    }

    private static void wrongOthers(TermLog x) {
        for (int some : NO_BITS) {
            Due.due("found " + some, x.found(some), false);
            Due.due("change 0 " + some, x.change(0, some), -1);
            Due.due("change 1 " + some, x.change(1, some), -1);
        }
        for (int key : NO_KEYS) {
            Due.due("write KEY " + key, x.write(0, key, 0), -1);
            Due.due("write KEY of 1 " + key, x.write(1, key, 0), -1);
            Due.due("ask KEY " + key, x.ask(0, key), -1);
            Due.due("ask KEY of 1 " + key, x.ask(1, key), -1);
        }
        for (int value : new int[] {-1, 100, Integer.MAX_VALUE, Integer.MIN_VALUE}) {
            Due.due("write value " + value, x.write(0, 0, value), -1);
        }
        for (int n : NO_COUNTS) Due.due("ticks " + n, x.ticks(n), -1);
        for (int n : new int[] {-1, 65536, Integer.MAX_VALUE, Integer.MIN_VALUE}) {
            Due.due("seed " + n, x.seed(n), false);
        }
    }

    private static void notNow(TermLog x) {
        Due.due("undo", x.undo(), false);
        Due.due("crash 4", x.crash(4), false);
        Due.due("comeUp 0", x.comeUp(0), false);
        Due.due("compact 4", x.compact(4), false);
        Due.due("compact 5", x.compact(5), false);
        Due.due("write 1", x.write(1, 0, 0), -2);
        Due.due("write 4", x.write(4, 0, 0), -2);
        Due.due("change 1", x.change(1, 3), -2);
        Due.due("change 4", x.change(4, 3), -2);
        Due.due("change 0", x.change(0, 3), -4);
        Due.due("ask 1", x.ask(1, 0), -2);
        Due.due("ask 4", x.ask(4, 0), -2);
    }

    private static void askedOnly(TermLog x) {
        for (int what = -1; what < 38; what++) {
            x.tried(30, what);
            x.nodeIs(what % 7, what);
            x.keyOf(0, what);
            x.message(what, 0);
            x.heldAt(what, 0);
            x.readIs(what, 0);
            x.broken(what);
            x.majority(0, what);
            x.count(what);
        }
        for (int what = 0; what < 3; what++) {
            x.till(50, what);
            x.couldWin(what, what);
            x.about(0, what, what);
            x.entryAt(0, what, what);
        }
        x.keep();
        x.leaderNow();
    }

    private static void texts(TermLog x) {
        Due.due("a FAULT of a PLAN", Due.plan(x, "k0k1.w011z"), -1009);
        Due.due("a FAULT 6", Due.plan(x, "9(9(9.))"), -6000);
        Due.due("a FAULT 7", Due.plan(x, ".x11"), -7003);
        Due.due("a FAULT of a LAW", Due.law(x, "e9(f=f);x"), -1009);
        Due.feed(x, "....");
        Due.due("plan(21)", x.plan(21), -1);
        Due.due("law(21)", x.law(21), -1);
        Due.due("check(9)", x.check(9), -2);
        Due.due("check(-1)", x.check(-1), -2);
        Due.due("the tape", x.count(5), 20);
        Due.due("check(0)", x.check(0), -1);
        Due.due("the tape is empty", x.count(5), 0);
        Due.due("check(1) of none", x.check(1), -2);
    }
}
