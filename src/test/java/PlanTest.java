/** Promise 12: PLANS as texts, what they do and what is wrong in them. */
public final class PlanTest {
    private PlanTest() {}

    public static void main(String[] args) {
        acts();
        repeats();
        refusedActs();
        asTheCalls();
        faults();
        twoHundred();
        lengths();
        Due.end("PlanTest");
    }

    private static void acts() {
        TermLog x = Due.settled(7);
        int tick = x.count(0);
        Due.due(".", Due.plan(x, "."), 1);
        Due.due(". is a TICK", x.count(0), tick + 1);
        Due.due("k1", Due.plan(x, "k1"), 1);
        Due.due("k1: DOWN", x.nodeIs(1, 0), 0);
        Due.due("u1", Due.plan(x, "u1"), 1);
        Due.due("u1: UP", x.nodeIs(1, 0), 1);
        Due.due("c0", Due.plan(x, "c0"), 1);
        Due.due("c0: BASE", x.nodeIs(0, 6), 1);
        Due.due("w079", Due.plan(x, "w079"), 1);
        Due.due("w079: KIND", x.entryAt(0, 2, 1), 0);
        Due.due("w079: KEY", x.entryAt(0, 2, 2), 7);
        Due.due("w079: value", x.entryAt(0, 2, 3), 9);
        Due.due("r07", Due.plan(x, "r07"), 1);
        Due.due("r07: NODE", x.readIs(0, 2), 0);
        Due.due("r07: KEY", x.readIs(0, 3), 7);
        Due.due("x16", Due.plan(x, "x16"), 1);
        Due.due("x16: cut", x.count(9), 1);
        Due.due("j61", Due.plan(x, "j61"), 1);
        Due.due("j61: joined", x.count(9), 0);
        Due.due("x60j06", Due.plan(x, "x60j06x12"), 3);
        Due.due("one behind the other", x.count(9), 1);
    }

    private static void repeats() {
        repeat(".", 1);
        repeat("2.", 2);
        repeat("9.", 9);
        repeat("(.)", 1);
        repeat("(..)", 2);
        repeat("2(..)", 4);
        repeat("3(2.).", 7);
        repeat("2(3(4.).)", 26);
        repeat("((.))", 1);
        repeat("2((3.)(4.))", 14);
        repeat("(2(.)2(.))", 4);
        repeat("..2...", 6);
    }

    private static void repeat(String text, int times) {
        TermLog x = new TermLog();
        Due.due(text, Due.plan(x, text), times);
        Due.due(text + ": THE TICK", x.count(0), times);
        Due.due(text + ": the tape", x.count(5), 0);
    }

    private static void refusedActs() {
        TermLog x = new TermLog();
        Due.due("UP comes up", Due.plan(x, "u0"), 0);
        Due.due("crashes once", Due.plan(x, "3k0"), 1);
        Due.due("comes up once", Due.plan(x, "3u0"), 1);
        Due.due("nothing to COMPACT", Due.plan(x, "c0"), 0);
        Due.due("a write to none that leads", Due.plan(x, "w011"), 0);
        Due.due("a READ of none that leads", Due.plan(x, "r01"), 0);
        Due.due("cut twice", Due.plan(x, "2x01"), 2);
        Due.due("joined twice", Due.plan(x, "2j01"), 2);
        x = Due.ledByZero(7);
        Due.due("a READ too early", Due.plan(x, "r01"), 0);
        x = Due.settled(7);
        Due.due("the READ numbered 0 and on", Due.plan(x, "9(2r01)"), 16);
        Due.due("READS asked", x.count(7), 16);
        x = Due.settled(1);
        Due.due("no room", Due.plan(x, "9(9w001)"), 39);
        Due.due("COMPACT once", Due.plan(x, "2c0w001"), 2);
    }

    /** What an ACT does, a call does. */
    private static void asTheCalls() {
        TermLog x = Due.settled(31);
        TermLog y = Due.settled(31);
        Due.plan(x, "2(w014.)k1x023.r03u1w035c0j02k0..u0");
        for (int i = 0; i < 2; i++) {
            y.write(0, 1, 4);
            y.ticks(1);
        }
        y.crash(1);
        y.cut(0, 2, true);
        y.ticks(3);
        y.ask(0, 3);
        y.comeUp(1);
        y.write(0, 3, 5);
        y.compact(0);
        y.cut(0, 2, false);
        y.crash(0);
        y.ticks(2);
        y.comeUp(0);
        Due.due("a PLAN and its calls", Due.seen(x), Due.seen(y));
    }

    private static void fault(String text, int number, int place) {
        TermLog x = Due.settled(7);
        int tick = x.count(0);
        Due.due(text, Due.plan(x, text), -1000 * number - place);
        Due.due(text + ": nothing is done", x.count(0), tick);
        Due.due(text + ": all stay UP", x.count(1), 127);
        Due.due(text + ": tape", x.count(5), 0);
    }

    private static void faults() {
        fault("a", 1, 0);
        fault(" ", 1, 0);
        fault(". .", 1, 1);
        fault(".K0", 1, 1);
        fault(")", 1, 0);
        fault("(", 1, 1);
        fault("()", 1, 1);
        fault("(.", 1, 2);
        fault("(.))", 1, 3);
        fault("((.)", 1, 4);
        fault("2", 1, 1);
        fault("22.", 1, 1);
        fault("0.", 1, 0);
        fault("1.", 1, 0);
        fault("2)", 1, 1);
        fault("(2)", 1, 2);
        fault(".k", 1, 2);
        fault(".k7", 1, 2);
        fault("u7", 1, 1);
        fault("c7", 1, 1);
        fault("ka", 1, 1);
        fault("w", 1, 1);
        fault("w7", 1, 1);
        fault("w0", 1, 2);
        fault("w08", 1, 2);
        fault("w00", 1, 3);
        fault("w00a", 1, 3);
        fault("r7", 1, 1);
        fault("r08", 1, 2);
        fault("r0", 1, 2);
        fault("x7", 1, 1);
        fault("x0", 1, 2);
        fault("x07", 1, 2);
        fault("j70", 1, 1);
        fault("j07", 1, 2);
        fault("k0k1k2z", 1, 6);
        fault("k0" + (char) 200, 1, 2);
        fault("x00", 7, 2);
        fault("x66", 7, 2);
        fault(".j33", 7, 3);
        fault("2(k0x11)", 7, 6);
        fault("(((.)))", 5, 2);
        fault("2(.2(.2(.)))", 5, 7);
        fault("(((", 5, 2);
        Due.due("closed again", Due.plan(new TermLog(), "((.))((.))(.(.)(.))"), 5);
    }

    private static void twoHundred() {
        repeat("8(5(5.))", 200);
        repeat("4(5(9.).)4.", 188);
        fault("8(5(5.)).", 6, 8);
        fault("8(5(5.))2.", 6, 8);
        fault("8(5(5.))(.)", 6, 9);
        fault("8(5(5.))2(.)", 6, 10);
        fault("3(9(9.))", 6, 0);
        fault(".3(9(9.))", 6, 1);
        fault("(9(3(.)))", 5, 4);
        fault("9(9(..9.))", 6, 0);
        fault("2(9(9..)9(9.))", 6, 0);
        repeat("(9(9...)9(9.)9.)", 189);
        fault("(9(9...)9(9.)9.9.9.)", 6, 17);
        fault("2(9(9.).)9(9.)", 6, 9);
        fault("2(9(9.).)4(9.)k", 1, 15);
        fault("2(9(9.).)4(9.)k7", 1, 15);
        fault("8(5(5.))x00", 7, 10);
        fault("8(5(5.))x01", 6, 8);
        fault("8(5(5.))5k0z", 6, 8);
        // asked of all of them so far, and of an inner one first
        fault("8(5(4.))2(9.9.9.9.9.9.)", 6, 18);
        fault("8(5(4.))(4(9.)5.)", 6, 14);
        fault("8(5(4.))3(2(9.))", 6, 8);
    }

    private static void lengths() {
        TermLog x = new TermLog();
        Due.due("plan(1) of none", x.plan(1), -1);
        Due.feed(x, ".....");
        Due.due("plan(0)", x.plan(0), -1);
        Due.due("plan(-1)", x.plan(-1), -1);
        Due.due("plan(21)", x.plan(21), -1);
        Due.due("plan(121)", x.plan(121), -1);
        Due.due("plan(MIN)", x.plan(Integer.MIN_VALUE), -1);
        Due.due("plan(MAX)", x.plan(Integer.MAX_VALUE), -1);
        Due.due("the tape stays", x.count(5), 20);
        Due.due("THE TICK stays", x.count(0), 0);
        Due.due("plan(5)", x.plan(5), 5);
        Due.due("empty then", x.count(5), 0);
        Due.feed(x, ".".repeat(140));
        Due.due("plan(121) of 140", x.plan(121), -1);
        Due.due("plan(120) of 140", x.plan(120), 120);
        Due.due("empty behind 120 of 140", x.count(5), 0);
    }
}
