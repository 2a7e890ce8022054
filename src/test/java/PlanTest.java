/** 'Terms', part 3, A PLAN, sentence by sentence: what its ACTS do and what is wrong in them. */
public final class PlanTest {
    private PlanTest() {}

    public static void main(String[] args) {
        atMost120Bytes();
        actsOfNodes();
        writes();
        readsAndLinks();
        soManyTimes();
        twoHundredInAll();
        whatCantStandThere();
        thirdOpen();
        moreThan200();
        ofAnInnerOneFirst();
        andItself();
        asTheCalls();
        Due.end("PlanTest");
    }

    private static void atMost120Bytes() {
        Due.says(0, "A PLAN: a TEXT of at most 120 bytes, no blanks: ACTS one behind the other:");
        for (int bytes = 119; bytes <= 121; bytes++) {
            TermLog x = new TermLog();
            Due.feed(x, ".".repeat(bytes));
            Due.due("plan(" + bytes + ")", x.plan(bytes), bytes <= 120 ? bytes : -1);
            Due.due("THE TICK", x.count(0), bytes <= 120 ? bytes : 0);
            Due.due("the tape", x.count(5), bytes <= 120 ? 0 : 140);
        }
        Due.due("a blank within", Due.plan(new TermLog(), ". ."), -1001);
        Due.due("a blank ahead", Due.plan(new TermLog(), " ."), -1000);
        Due.due("a blank behind", Due.plan(new TermLog(), ". "), -1001);
        Due.due("a ; between two", Due.plan(new TermLog(), ".;."), -1001);
        TermLog x = new TermLog();
        Due.due("one behind the other", Due.plan(x, "k0.k1u0x12"), 5);
        Due.due("UP", x.count(1), 125);
        Due.due("THE TICK", x.count(0), 1);
        Due.due("links", x.count(9), 1);
    }

    private static void actsOfNodes() {
        Due.says(0, ". (46) a TICK; (digits of NODES are 0 to 6, all through) k and a digit: that NODE"
                + " crashes; u and a digit: it comes up; c and a digit: it COMPACTS;");
        TermLog x = new TermLog();
        x.feed(46 << 24, 0, 0, 0, 0);
        Due.due("46", x.plan(1), 1);
        Due.due("a TICK", x.count(0), 1);
        for (int n = 0; n < 7; n++) {
            Due.due("k" + n, Due.plan(x, "k" + n), 1);
            Due.due("DOWN " + n, x.nodeIs(n, 0), 0);
            Due.due("u" + n, Due.plan(x, "u" + n), 1);
            Due.due("UP " + n, x.nodeIs(n, 0), 1);
        }
        for (String act : new String[] {"k", "u", "c"}) {
            for (char c = '7'; c < '<'; c++) {
                Due.due(act + c, Due.plan(x, act + c), -1001);
            }
            Due.due(act + "/", Due.plan(x, act + "/"), -1001);
        }
        x = Due.settled(127);
        x.ticks(6);
        for (int n = 0; n < 7; n++) {
            Due.due("BASE of " + n, x.nodeIs(n, 6), 0);
            Due.due("c" + n, Due.plan(x, "c" + n), 1);
            Due.due("BASE then of " + n, x.nodeIs(n, 6), 1);
        }
    }

    private static void writes() {
        Due.says(0, "w, a digit of a NODE, a digit 0 to 7, a digit: a write of that KEY, that value (0 to"
                + " 9) to that NODE;");
        TermLog x = Due.settled(7);
        Due.due("w000", Due.plan(x, "w000"), 1);
        Due.due("w079", Due.plan(x, "w079"), 1);
        int[][] all = {{1, 0, 0, 0}, {1, 0, 7, 9}};
        for (int i = 0; i < 2; i++) {
            for (int what = 0; what < 4; what++) {
                Due.due("ENTRY " + i + " " + what, x.entryAt(0, 2 + i, what), all[i][what]);
            }
        }
        Due.due("to one that LEADS not", Due.plan(x, "w100w600"), 0);
        Due.due("NODE 7", Due.plan(x, "w700"), -1001);
        Due.due("KEY 8", Due.plan(x, "w080"), -1002);
        Due.due("value :", Due.plan(x, "w00:"), -1003);
        Due.due("a value of two digits", Due.plan(x, "w0011"), -1004);
        x.found(64);
        Due.tickTill(x, y -> y.leaderNow() == 6);
        Due.due("w675", Due.plan(x, "w675"), 1);
        Due.due("NODE 6", x.keyOf(6, 7), 5);
    }

    private static void readsAndLinks() {
        Due.says(0, "r, a digit, a digit 0 to 7: a READ of that KEY of that NODE; x and two digits: the"
                + " link between both is cut, j and two digits: joined;");
        TermLog x = Due.settled(7);
        Due.due("r00r07", Due.plan(x, "r00r07"), 2);
        Due.due("READ 0", x.readIs(0, 2) * 10 + x.readIs(0, 3), 0);
        Due.due("READ 1", x.readIs(1, 2) * 10 + x.readIs(1, 3), 7);
        Due.due("of one that LEADS not", Due.plan(x, "r10"), 0);
        Due.due("NODE 7", Due.plan(x, "r70"), -1001);
        Due.due("KEY 8", Due.plan(x, "r08"), -1002);
        Due.due("x06", Due.plan(x, "x06"), 1);
        Due.due("one is cut", x.count(9), 1);
        Due.due("x60 again", Due.plan(x, "x60"), 1);
        Due.due("one is cut yet", x.count(9), 1);
        Due.due("x12", Due.plan(x, "x12"), 1);
        Due.due("two are cut", x.count(9), 2);
        Due.due("j60", Due.plan(x, "j60"), 1);
        Due.due("one is joined", x.count(9), 1);
        Due.due("j60 again", Due.plan(x, "j06"), 1);
        x.cut(0, 2, true);
        x.write(0, 0, 1);
        x.ticks(1);
        Due.due("x12 is not x02", x.nodeIs(1, 4) * 10 + x.nodeIs(2, 4), 21);
        Due.due("x07", Due.plan(x, "x07"), -1002);
        Due.due("x70", Due.plan(x, "x70"), -1001);
        Due.due("j07", Due.plan(x, "j07"), -1002);
        Due.due("j70", Due.plan(x, "j70"), -1001);
    }

    private static void repeat(String text, int times) {
        TermLog x = new TermLog();
        Due.due(text, Due.plan(x, text), times);
        Due.due(text + ": THE TICK", x.count(0), times);
        Due.due(text + ": the tape", x.count(5), 0);
    }

    private static void soManyTimes() {
        Due.says(0, "ahead of an ACT perhaps a digit 2 to 9 (so many times); or (ACTS), ahead of it perhaps"
                + " a digit 2 to 9.");
        for (int times = 2; times <= 9; times++) {
            repeat(times + ".", times);
            repeat(times + "(.)", times);
            repeat("." + times + "(..).", 2 * times + 2);
        }
        Due.due("0.", Due.plan(new TermLog(), "0."), -1000);
        Due.due("1.", Due.plan(new TermLog(), "1."), -1000);
        Due.due(":.", Due.plan(new TermLog(), ":."), -1000);
        Due.due("22.", Due.plan(new TermLog(), "22."), -1001);
        Due.due("0(.)", Due.plan(new TermLog(), "0(.)"), -1000);
        Due.due("1(.)", Due.plan(new TermLog(), "1(.)"), -1000);
        Due.due("22(.)", Due.plan(new TermLog(), "22(.)"), -1001);
        Due.due("2)", Due.plan(new TermLog(), "(.2)"), -1003);
        repeat("(.)", 1);
        repeat("((.))", 1);
        repeat("3(.2(.))", 9);
        repeat("2((3.)(4.))", 14);
        repeat("(2(.)2(.))", 4);
        repeat("2.3.", 5);
        repeat("..2...", 6);
        // an ACT of some bytes, with its digit alone
        TermLog x = Due.settled(7);
        Due.due("3w001", Due.plan(x, "3w001"), 3);
        Due.due("LAST", x.nodeIs(0, 4), 4);
        Due.due("2(w012k1)", Due.plan(x, "2(w012k1)"), 3);
        Due.due("one behind the other, twice", x.entryAt(0, 6, 2), 1);
    }

    private static void twoHundredInAll() {
        Due.says(0, "200 ACTS at most in all.");
        repeat("8(5(5.))", 200);
        repeat("4(7(7.))3.", 199);
        repeat("4(7(7.))4.", 200);
        repeat("4(7(7.))3..", 200);
        Due.due("201", Due.plan(new TermLog(), "4(7(7.))5."), -6008);
        Due.due("201, one by one", Due.plan(new TermLog(), "4(7(7.))3..."), -6011);
        repeat("4(5(9.).)4.", 188);
        repeat("2(9(9.)9.)2(9.)", 198);
        repeat("(9(9...)9(9.)9.)", 189);
    }

    private static void fault(String text, int number, int place) {
        TermLog x = Due.settled(7);
        int tick = x.count(0);
        Due.due(text, Due.plan(x, text), -1000 * number - place);
        Due.due(text + ": nothing is done", x.count(0), tick);
        Due.due(text + ": all stay UP", x.count(1), 127);
        Due.due(text + ": tape", x.count(5), 0);
    }

    private static void whatCantStandThere() {
        Due.says(0, "FAULTS: 1;");
        fault("a", 1, 0);
        fault(" ", 1, 0);
        fault(". .", 1, 1);
        fault(".K0", 1, 1);
        fault(")", 1, 0);
        fault("(", 1, 1);
        fault("()", 1, 1);
        fault("(.", 1, 2);
        fault("(.))", 1, 3);
        fault("((.)", 1, 4);
        fault("2", 1, 1);
        fault("2()", 1, 2);
        fault(".2", 1, 2);
        fault("(2", 1, 2);
        fault("22.", 1, 1);
        fault("0.", 1, 0);
        fault("1.", 1, 0);
        fault("2)", 1, 1);
        fault("(2)", 1, 2);
        fault(".k", 1, 2);
        fault(".k7", 1, 2);
        fault("u7", 1, 1);
        fault("c7", 1, 1);
        fault("ka", 1, 1);
        fault("w", 1, 1);
        fault("w7", 1, 1);
        fault("w0", 1, 2);
        fault("w08", 1, 2);
        fault("w00", 1, 3);
        fault("w00a", 1, 3);
        fault("r7", 1, 1);
        fault("r08", 1, 2);
        fault("r0", 1, 2);
        fault("r", 1, 1);
        fault("x", 1, 1);
        fault("x7", 1, 1);
        fault("x0", 1, 2);
        fault("x07", 1, 2);
        fault("j70", 1, 1);
        fault("j07", 1, 2);
        fault("k0k1k2z", 1, 6);
        fault("k0" + (char) 200, 1, 2);
        fault("k0" + (char) 0, 1, 2);
        // all signs that begin no ACT
        for (char c = 0; c < 256; c++) {
            boolean is = ".kucwrxj(23456789".indexOf(c) >= 0;
            int want = c == '.' ? 1 : is ? -1001 : -1000;
            Due.due("as an ACT: " + (int) c, Due.plan(new TermLog(), "" + c), want);
        }
        // the first from the left
        fault("k8x11", 1, 1);
        fault("x11k8", 7, 2);
        fault("(((k8", 5, 2);
    }

    private static void thirdOpen() {
        Due.says(0, "5 a third ( that is open in another one, at it;");
        repeat("((.))", 1);
        fault("(((.)))", 5, 2);
        fault("2(.2(.2(.)))", 5, 7);
        fault("(((", 5, 2);
        fault("((2(.)))", 5, 3);
        fault("((.(.)))", 5, 3);
        fault("(.)((.))(((.)))", 5, 10);
        repeat("((.))((.))(.(.)(.))", 5);
    }

    private static void moreThan200() {
        Due.says(0, "6 more than 200, at the first byte of what (or its digit) by which they are");
        fault("8(5(5.)).", 6, 8);
        fault("8(5(5.))2.", 6, 8);
        fault("8(5(5.))k0", 6, 8);
        fault("8(5(5.))2k0", 6, 8);
        fault(".8(5(5.))", 6, 1);
        fault(".(8(5.)8(5.)8(5.)8(5.)8(5.))", 6, 22);
        fault("3(9(9.))", 6, 0);
        fault(".3(9(9.))", 6, 1);
        fault("4(7(7.))5.", 6, 8);
        fault("4(7(7.))4..", 6, 10);
        fault("9(9(..9.))", 6, 0);
        // asked when it ends: of what is wrong in it that is told first
        fault("8(5(5.))x00", 7, 10);
        fault("8(5(5.))x0", 1, 10);
        fault("8(5(5.))w00", 1, 11);
        fault("8(5(5.))2k7", 1, 10);
        fault("8(5(5.))a", 1, 8);
        fault("8(5(5.))2", 1, 9);
        fault("8(5(5.))()", 1, 9);
        fault("8(5(5.))x01", 6, 8);
        fault("8(5(5.))5k0z", 6, 8);
        fault("2(9(9.).)4(9.)k", 1, 15);
        fault("2(9(9.).)4(9.)k7", 1, 15);
    }

    private static void ofAnInnerOneFirst() {
        Due.says(0, "(asked when it ends; of an inner one first);");
        fault("8(5(5.))(.)", 6, 9);
        fault("8(5(5.))2(.)", 6, 10);
        fault("8(5(5.))((.))", 6, 10);
        fault("2(9(9.)9(9.))", 6, 0);
        fault("2(9(9.)9(9.)9(9.))", 6, 12);
        fault("2(9(9..)9(9.))", 6, 0);
        fault("2(9(9..)9(9..)9.9.3.)", 6, 18);
        fault("(9(9...)9(9.)9.9.9.)", 6, 17);
        fault("2(9(9.).)9(9.)", 6, 9);
        // of all ACTS so far, those ahead of a ( that is open, too
        fault("8(5(4.))2(9.9.9.9.9.9.)", 6, 18);
        fault("8(5(4.))(4(9.)5.)", 6, 14);
        fault("8(5(4.))3(2(9.))", 6, 8);
        // a third ( comes ahead of what it would hold
        fault("(9(3(.)))", 5, 4);
    }

    private static void andItself() {
        Due.says(0, "7 a NODE and itself (x, j), at the second digit.");
        for (int n = 0; n < 7; n++) {
            fault("x" + n + n, 7, 2);
            fault("j" + n + n, 7, 2);
        }
        fault(".j33", 7, 3);
        fault("2(k0x11)", 7, 6);
        fault("9x00", 7, 3);
        fault("x77", 1, 1);
        Due.due("r and w may", Due.plan(new TermLog(), "r00w000"), 0);
    }

    /** What an ACT does, a call does. */
    private static void asTheCalls() {
        Due.says(0, "Done one behind the other, each as the call of it.");
        TermLog x = Due.settled(31);
        TermLog y = Due.settled(31);
        Due.plan(x, "2(w014.)k1x023.r03u1w035c0j02k0..u0");
        for (int i = 0; i < 2; i++) {
            y.write(0, 1, 4);
            y.ticks(1);
        }
        y.crash(1);
        y.cut(0, 2, true);
        y.ticks(3);
        y.ask(0, 3);
        y.comeUp(1);
        y.write(0, 3, 5);
        y.compact(0);
        y.cut(0, 2, false);
        y.crash(0);
        y.ticks(2);
        y.comeUp(0);
        Due.due("a PLAN and its calls", Due.seen(x), Due.seen(y));
    }
}
