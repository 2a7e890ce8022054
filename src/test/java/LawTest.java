/** 'Terms', part 3, THE LAW, sentence by sentence: by TIMERS set and MESSAGES sent under it. */
public final class LawTest {
    private LawTest() {}

    public static void main(String[] args) {
        atMost240Bytes();
        rules();
        howManyTicksMore();
        tenthsLost();
        leastTimer();
        lostByAny();
        firstRuleThatHolds();
        sentWithADraw();
        tests();
        sums();
        factors();
        letters();
        termModulo100();
        tickModulo100();
        thirtyTwoBits();
        refusedDivisions();
        asMuchAsMatters();
        whatCantStandThere();
        sixthDigit();
        seventeenthRule();
        seventhOpen();
        openTillItEnds();
        Due.end("LawTest");
    }

    /** What NODE 3's TIMER has above the DRAW when it comes up under this LAW at TICK 0. */
    private static int least(String law) {
        TermLog x = new TermLog();
        Due.law(x, law);
        x.crash(3);
        x.comeUp(3);
        return x.nodeIs(3, 7) - x.count(6) % 10;
    }

    private static void worth(String e, int want) {
        Due.due("e" + e + "(f=f)", least("e" + e + "(f=f)"), want);
    }

    private static void holds(String c, boolean want) {
        Due.due("e20(" + c + ")", least("e20(" + c + ")"), want ? 20 : 8);
    }

    private static void atMost240Bytes() {
        Due.says(0, "3. THE LAW: a TEXT of at most 240 bytes, no blanks (none at first):");
        TermLog x = new TermLog();
        Due.due("none at first", x.count(4), 0);
        for (int bytes = 239; bytes <= 241; bytes++) {
            String text = ofBytes(bytes);
            Due.due("bytes", text.length(), bytes);
            x = new TermLog();
            Due.feed(x, text);
            Due.due("law(" + bytes + ")", x.law(bytes), bytes <= 240 ? 1 : -1);
            Due.due("RULES", x.count(4), bytes <= 240 ? 1 : 0);
            Due.due("the tape", x.count(5), bytes <= 240 ? 0 : 260);
        }
        x = new TermLog();
        Due.due("a blank ahead", Due.law(x, " x(f=0)"), -1000);
        Due.due("a blank within", Due.law(x, "x( f=0)"), -1002);
        Due.due("a blank behind", Due.law(x, "x(f=0) "), -1006);
        Due.due("a line's end behind", Due.law(x, "x(f=0)\n"), -1006);
    }

    /** A LAW of one RULE of so many bytes. */
    private static String ofBytes(int bytes) {
        int left = bytes - "e9(f=3)".length();
        return "e9" + "+1".repeat(left / 2) + (left % 2 == 0 ? "" : "0") + "(f=3)";
    }

    private static void rules() {
        Due.says(0, "RULES (16 at most) with a ; (59) between two: a letter, E, and (C), of x only (C):");
        String fifteen = "x(f=0)" + ";x(f=0)".repeat(14);
        Due.due("one", Due.law(new TermLog(), "x(f=0)"), 1);
        Due.due("two", Due.law(new TermLog(), "d0(f=0);l0(f=0)"), 2);
        Due.due("15", Due.law(new TermLog(), fifteen), 15);
        Due.due("16", Due.law(new TermLog(), fifteen + ";e9(f=0)"), 16);
        Due.due("17", Due.law(new TermLog(), fifteen + ";e9(f=0);e9(f=0)"), -4113);
        Due.due("nothing between two", Due.law(new TermLog(), "x(f=0)x(f=0)"), -1006);
        Due.due("a : between two", Due.law(new TermLog(), "x(f=0):x(f=0)"), -1006);
        Due.due("a ; behind the last", Due.law(new TermLog(), "x(f=0);"), -1007);
        Due.due("a ; ahead of the first", Due.law(new TermLog(), ";x(f=0)"), -1000);
        Due.due("two of them", Due.law(new TermLog(), "x(f=0);;x(f=0)"), -1007);
        Due.due("d without E", Due.law(new TermLog(), "d(f=0)"), -1001);
        Due.due("l without E", Due.law(new TermLog(), "l(f=0)"), -1001);
        Due.due("e without E", Due.law(new TermLog(), "e(f=0)"), -1001);
        Due.due("x with E", Due.law(new TermLog(), "x1(f=0)"), -1001);
        Due.due("d without C", Due.law(new TermLog(), "d1"), -1002);
        Due.due("another letter", Due.law(new TermLog(), "f1(f=0)"), -1000);
    }

    /** A write to seven: when the first MESSAGE is due from now on (none: 0), how many are lost. */
    private static void sentUnder(String law, int dueIn, int lost) {
        TermLog x = Due.settled(127);
        Due.quiet(x);
        int answer = Due.law(x, law);
        Due.due(law, answer, 1 + (int) law.chars().filter(c -> c == ';').count());
        int before = x.count(8);
        int x6 = Due.xBehind(x.count(6), 6);
        x.write(0, 1, 1);
        Due.due(law + ": DRAWS", x.count(6), x6);
        Due.due(law + ": lost", x.count(8) - before, lost);
        Due.due(law + ": on their way", x.count(2), 6 - lost);
        if (dueIn > 0) Due.due(law + ": due", x.message(0, 4) - x.count(0), dueIn);
        else Due.due(law + ": due", x.message(0, 4), -4);
    }

    private static void howManyTicksMore() {
        Due.says(0, "d how many TICKS more a MESSAGE takes (0 to 9; none: 0),");
        sentUnder("e40(f=f)", 1, 0);
        sentUnder("d0-1(f=f)", 1, 0);
        sentUnder("d0-99999(f=f)", 1, 0);
        sentUnder("d0(f=f)", 1, 0);
        sentUnder("d1(f=f)", 2, 0);
        sentUnder("d8(f=f)", 9, 0);
        sentUnder("d9(f=f)", 10, 0);
        sentUnder("d10(f=f)", 10, 0);
        sentUnder("d99999(f=f)", 10, 0);
        sentUnder("d3(k=2)", 4, 0);
        sentUnder("d3(k=0)", 1, 0);
        sentUnder("d4/0(f=f)", 1, 0);
        sentUnder("dn+n(f=f)", 3, 0);
    }

    private static void tenthsLost() {
        Due.says(0, "l tenths lost (0 to 10; none: 0),");
        sentUnder("l0-1(f=f)", 1, 0);
        sentUnder("l0(f=f)", 1, 0);
        sentUnder("l10(f=f)", 0, 6);
        sentUnder("l11(f=f)", 0, 6);
        sentUnder("l99999(f=f)", 0, 6);
        sentUnder("l5(k=3)", 1, 0);
        for (int l = 1; l < 10; l++) {
            TermLog x = Due.settled(127);
            int lost = 0;
            for (int i = 1; i <= 6; i++) {
                if (Due.xBehind(x.count(6), i) % 10 < l) lost++;
            }
            Due.law(x, "l" + l + "(f=f)");
            int before = x.count(8);
            x.write(0, 0, 0);
            Due.due("lost by l" + l, x.count(8) - before, lost);
        }
        // on the bound, one below it and one above it, by each DRAW
        for (int l = 0; l <= 11; l++) {
            for (int draw = 0; draw < 10; draw++) {
                TermLog x = Due.settled(3);
                Due.quiet(x);
                Due.law(x, "l" + l + "(f=f)");
                x.seed(Due.seedFor(draw));
                x.write(0, 0, 0);
                Due.due("l" + l + " by " + draw, x.count(8), draw < l ? 1 : 0);
            }
        }
    }

    private static void leastTimer() {
        Due.says(0, "e the least TIMER (4 to 40; none: 8),");
        worth("0-99999", 4);
        worth("0-1", 4);
        worth("0", 4);
        worth("3", 4);
        worth("4", 4);
        worth("5", 5);
        worth("39", 39);
        worth("40", 40);
        worth("41", 40);
        worth("99999", 40);
        Due.due("none", least("d9(f=f)"), 8);
        Due.due("none that holds", least("e9(f=2)"), 8);
    }

    private static void lostByAny() {
        Due.says(0, "x a MESSAGE is lost (any will do):");
        sentUnder("x(f=0)", 0, 6);
        sentUnder("x(f=1);x(k=2)", 0, 6);
        sentUnder("x(k=2);x(f=1)", 0, 6);
        sentUnder("x(f=1);x(k=3)", 1, 0);
        sentUnder("x(t>3)", 1, 3);
        sentUnder("x(t=2);x(t=4);x(t=6)", 1, 3);
        sentUnder("x(1/0=0)", 1, 0);
        sentUnder("x(1/0=0);x(t=1)", 1, 1);
        sentUnder("x(w<0)", 1, 0);
        sentUnder("x(q>3)", 1, 2);
    }

    private static void firstRuleThatHolds() {
        Due.says(0, "of the first RULE of d, l, e whose C holds the E (beyond its bounds the bound).");
        Due.due("first", least("e20(f=3);e30(f=3)"), 20);
        Due.due("second", least("e20(f=2);e30(f=3)"), 30);
        Due.due("third", least("e20(f=2);e30(f=1);e12(f=f)"), 12);
        Due.due("none", least("e20(f=2);e30(f=4)"), 8);
        Due.due("of e alone", least("d20(f=3);l30(f=3);e12(f=3)"), 12);
        Due.due("the first, beyond its bounds", least("e1(f=3);e30(f=3)"), 4);
        sentUnder("d2(q=1);d5(q=0)", 6, 0);
        sentUnder("d5(q=0);d2(q>0)", 6, 0);
        sentUnder("l10(t=2);l0(f=f)", 1, 1);
        sentUnder("l0(f=f);l10(t=2)", 1, 0);
    }

    private static void sentWithADraw() {
        Due.says(0, "it is SENT with a DRAW (d, l, x of THE LAW asked with it): by x, or if the DRAW is"
                + " below l, it is lost (also if there are 160); else it is due 1 and d TICKS later.");
        for (int draw = 0; draw < 10; draw++) {
            TermLog x = Due.settled(3);
            Due.quiet(x);
            Due.law(x, "dw(f=f);l4(f=f);x(w=7)");
            x.seed(Due.seedFor(draw));
            int behind = Due.xBehind(x.count(6), 1);
            x.write(0, 0, 0);
            boolean isLost = draw < 4 || draw == 7;
            Due.due("one DRAW", x.count(6), behind);
            Due.due("lost " + draw, x.count(8), isLost ? 1 : 0);
            Due.due("due " + draw, x.message(0, 4), isLost ? -4 : x.count(0) + 1 + draw);
        }
    }

    private static void tests() {
        Due.says(0, "C: PARTS with a | between two, one of which must hold; a PART: TESTS with an &"
                + " between two, all of which must; a TEST: !TEST, (C), or E, one of < > =, and E.");
        holds("1<2", true);
        holds("2<2", false);
        holds("3<2", false);
        holds("3>2", true);
        holds("2>2", false);
        holds("1>2", false);
        holds("2=2", true);
        holds("2=1", false);
        holds("2=3", false);
        holds("!2=1", true);
        holds("!2=2", false);
        holds("!!2=1", false);
        holds("!!2=2", true);
        holds("(2=1)", false);
        holds("(2=2)", true);
        holds("!(2=1)", true);
        holds("!(2=1|2=2)", false);
        holds("1=1&1=2", false);
        holds("1=2&1=1", false);
        holds("1=1&2=2", true);
        holds("1=2|1=1", true);
        holds("1=1|1=2", true);
        holds("1=2|1=3", false);
        holds("1=1|1=1&1=2", true);
        holds("(1=1|1=1)&1=2", false);
        holds("1=2&1=1|1=1", true);
        holds("1=2&(1=1|1=1)", false);
        holds("!1=1&1=2", false);
        holds("!1=1|1=1", true);
        holds("!1=2&1=2", false);
        holds("1=2|1=2|1=2", false);
        holds("1=2|1=2|1=1", true);
        holds("1=1&1=1&1=1", true);
        holds("1=1&1=1&1=2", false);
        holds("0-1<0", true);
        holds("1+1=2", true);
        holds("2=1+1", true);
        holds("3-2<4-2", true);
    }

    private static void sums() {
        Due.says(0, "E: TERMS with + or - between two; a TERM: FACTORS with one of * / % between two; from"
                + " the left on;");
        worth("9+9", 18);
        worth("30-9-9", 12);
        worth("30-9+9", 30);
        worth("2+3*4", 14);
        worth("3*4+2", 14);
        worth("40-3*4", 28);
        worth("7/2*4", 12);
        worth("4*7/2", 14);
        worth("39%20*2", 38);
        worth("2*39%20", 18);
        worth("40/2/2", 10);
        worth("39%25%8", 6);
        worth("2*3*4/5%3+9", 10);
        worth("40-9/2", 36);
        worth("2+39%20", 21);
        worth("40-7%4", 37);
        worth("40-2*9/3-1", 33);
    }

    private static void factors() {
        Due.says(0, "a FACTOR: [E], a number of one to five digits, or a letter:");
        worth("[2+3]*4", 20);
        worth("40-[10-[3-1]]", 32);
        worth("[9]", 9);
        worth("9", 9);
        worth("09", 9);
        worth("009", 9);
        worth("0009", 9);
        worth("00009", 9);
        worth("00012", 12);
        worth("99999-99989", 10);
        worth("f*5", 15);
        Due.due("no digit", Due.law(new TermLog(), "e(f=f)"), -1001);
        Due.due("six digits", Due.law(new TermLog(), "e000009(f=f)"), -2006);
        Due.due("[] without E", Due.law(new TermLog(), "e[](f=f)"), -1002);
        for (char c = 0; c < 256; c++) {
            boolean is = "ftknqsw0123456789".indexOf(c) >= 0;
            int want = is ? 1 : c == '[' ? -1005 : -1004;
            Due.due("as a FACTOR: " + (int) c, Due.law(new TermLog(), "x(f=" + c + ")"), want);
        }
    }

    private static void letters() {
        Due.says(0, "f from whom (in e the NODE), t to whom (in e the NODE), k KIND (in e 6), n the"
                + " NODE's, sender's TERM modulo 100, q how many MESSAGES are on their way, s THE TICK"
                + " modulo 100, w the DRAW.");
        holds("f=3&t=3&k=6&n=0&q=0&s=0", true);
        holds("f=2|t=2|k=5|n=1|q=1|s=1", false);
        sentUnder("x(f=0&t>3&k=2&n=1&q<4)", 1, 3);
        sentUnder("dt(f=0)", 2, 0);
        sentUnder("d[t-1]*10+k(f=0)", 3, 0);
        TermLog x = new TermLog();
        for (int draw = 0; draw < 10; draw++) {
            Due.law(x, "e10+w*2(f=f)");
            x.crash(2);
            x.seed(Due.seedFor(draw));
            x.comeUp(2);
            Due.due("w in e", x.nodeIs(2, 7), 10 + 3 * draw);
        }
        x = Due.ledByZero(127);
        int tick = x.count(0);
        Due.due("on their way", x.count(2), 6);
        Due.law(x, "e20(s=" + tick + "&q=6&n=1&f=6&t=6&k=6)");
        x.crash(6);
        x.comeUp(6);
        Due.due("n is 0 yet", x.nodeIs(6, 1), 1);
        Due.due("s, q, n, f in e", x.nodeIs(6, 7) - x.count(6) % 10, 20);
        // q is asked ahead of the MESSAGE itself: 0 to 5
        sentUnder("x(q>4)", 1, 1);
        sentUnder("x(q>5)", 1, 0);
        // the sender's TERM, not the receiver's
        x = Due.settled(7);
        x.cut(0, 1, true);
        x.cut(0, 2, true);
        Due.makeLead(x, 1);
        Due.law(x, "e40(f=f);x(n=1)");
        int lost = x.count(8);
        x.ask(0, 0);
        Due.due("of TERM 1", x.count(8) - lost, 2);
        x.write(1, 0, 0);
        Due.due("of TERM 2", x.count(8) - lost, 2);
    }

    private static void termModulo100() {
        Due.says(0, "n the NODE's, sender's TERM modulo 100,");
        TermLog x = new TermLog();
        Due.law(x, "e4(f=f);x(f=f)");
        x.found(3);
        x.cut(0, 1, true);
        Due.tickToTerm(x, 0, 99);
        for (int term = 99; term <= 101; term++) {
            Due.due("TERM", x.nodeIs(0, 1), term);
            Due.law(x, "e30(n=" + term % 100 + ");e20(f=f)");
            x.crash(0);
            x.comeUp(0);
            Due.due("n at " + term, x.nodeIs(0, 7) - x.count(6) % 10, 30);
            Due.law(x, "e4(f=f);d5(n=" + (term + 1) % 100 + ")");
            x.crash(0);
            x.seed(Due.seedFor(0));
            x.comeUp(0);
            x.crash(1);
            x.ticks(4);
            Due.due("stood", x.nodeIs(0, 1), term + 1);
            int at = Due.find(x, 0, 1, 0);
            Due.due("n as it is SENT", x.message(at, 4) - x.count(0), 6);
            Due.law(x, "e40(f=f)");
            x.crash(0);
            x.comeUp(0);
            Due.quiet(x);
        }
    }

    private static void tickModulo100() {
        Due.says(0, "s THE TICK modulo 100,");
        TermLog x = new TermLog();
        Due.law(x, "e30(s=99);e20(s=0);e10(s=1);e40(f=f)");
        x.ticks(98);
        int[] due = {40, 30, 20, 10, 40};
        for (int i = 0; i < 5; i++) {
            x.crash(6);
            x.comeUp(6);
            Due.due("s at " + (98 + i), x.nodeIs(6, 7) - x.count(6) % 10, due[i]);
            x.ticks(1);
        }
        // in a TICK it is one more already
        x = Due.settled(1);
        int tick = x.count(0);
        Due.law(x, "e30-w(s=" + (tick + 20) % 100 + ");e20-w(f=f)");
        x.crash(5);
        x.comeUp(5);
        x.ticks(20);
        Due.due("s in a TICK", x.nodeIs(5, 7), 30);
    }

    private static void thirtyTwoBits() {
        Due.says(0, "All is reckoned with 32 bits, as the machine does;");
        holds("32768*65535+32767>0", true);
        holds("32768*65535+32768<0", true);
        holds("32768*65536<0", true);
        holds("32768*65536-1>0", true);
        holds("0-32768*65536<0", true);
        holds("32768*65536=[0-32768]*65536", true);
        holds("65536*65536=0", true);
        holds("65536*65536+7=7", true);
        holds("99999*99999=1409865409", false);
        holds("99999*99999=99999*99998+99999", true);
        holds("99999*30000<0", true);
        holds("99999*21474>0", true);
        holds("99999*21475>0", true);
        holds("99999*21476<0", true);
        worth("99999*99999/99999/1000", 14);
        // the least number by -1
        holds("32768*65536/[0-1]=32768*65536", true);
        holds("32768*65536%[0-1]=0", true);
        holds("32768*65536/2<0", true);
        // signs of / and %
        holds("[0-7]/2=0-3", true);
        holds("7/[0-2]=0-3", true);
        holds("[0-7]/[0-2]=3", true);
        holds("[0-7]%3=0-1", true);
        holds("7%[0-3]=1", true);
        worth("[0-7]%4+9", 6);
        worth("[0-7]/2+9", 6);
    }

    private static void refusedDivisions() {
        Due.says(0, "what is divided by 0 is REFUSED: then the whole C of the RULE does not hold, the E of"
                + " it is 0.");
        holds("1/0=0", false);
        holds("0/0=0", false);
        holds("!1/0=0", false);
        holds("!!1/0=0", false);
        holds("1%0=0", false);
        holds("!(1%0=0)", false);
        holds("1/0=0|1=1", false);
        holds("(1/0=0)|1=1", false);
        holds("(1/0=0|1=1)|1=1", false);
        holds("1=1&1/0=0|1=1", false);
        holds("1/[2-2]=0|1=1", false);
        holds("[5/0]*0=0|1=1", false);
        holds("0=0/[f-3]|1=1", false);
        holds("0/1=0", true);
        worth("30/0", 4);
        worth("30%0", 4);
        worth("30+1%0", 4);
        worth("1/0+30", 4);
        worth("30/[0-1]+60", 30);
        Due.due("a RULE behind a refused C", least("e30(1/0=0);e12(f=f)"), 12);
        Due.due("a refused E is that RULE's", least("e30/0(f=f);e12(f=f)"), 4);
        Due.due("a refused E of a C that does not hold", least("e30/0(f=2);e12(f=f)"), 12);
        Due.due("both are refused", least("e30/0(1/0=0);e12(f=f)"), 12);
        sentUnder("d4+5/0(f=f)", 1, 0);
        sentUnder("l10+5/0(f=f)", 1, 0);
        sentUnder("d9(1/0=0);d3(f=f)", 4, 0);
    }

    private static void asMuchAsMatters() {
        Due.says(0, "Of a C as much is asked, from the left, as matters.");
        holds("1=1|1/0=0", true);
        holds("1=1|1=2&1/0=0", true);
        holds("1=2&1/0=0|1=1", true);
        holds("1=2&1=1&1/0=0|1=1", true);
        holds("1=2&(1/0=0|1=1)", false);
        holds("(1=1|1/0=0)&1=1", true);
        holds("(1=2&1/0=0)|1=1", true);
        holds("!(1=1|1/0=0)|2=2", true);
        holds("!(1=2&1/0=0)", true);
        // what matters is asked
        holds("1=2|1/0=0", false);
        holds("1=2|1/0=0|1=1", false);
        holds("1=1&1/0=0", false);
        holds("1=1&1/0=0|1=1", false);
        holds("(1=2|1/0=0)|1=1", false);
        // of a TEST both sides
        holds("1<1/0|1=1", false);
        holds("0*[1/0]=0|1=1", false);
    }

    private static void fault(String law, int number, int place) {
        TermLog x = new TermLog();
        Due.due(law, Due.law(x, law), -1000 * number - place);
        Due.due(law + ": RULES", x.count(4), 0);
        Due.due(law + ": tape", x.count(5), 0);
    }

    private static void whatCantStandThere() {
        Due.says(0, "FAULTS, the first from the left: 1 what can't stand there (the end, too);");
        fault("a", 1, 0);
        fault(";", 1, 0);
        fault("D5(f=0)", 1, 0);
        fault(" d5(f=0)", 1, 0);
        fault("d 5(f=0)", 1, 1);
        fault("d", 1, 1);
        fault("d5", 1, 2);
        fault("d(f=0)", 1, 1);
        fault("x5(f=0)", 1, 1);
        fault("x", 1, 1);
        fault("x(", 1, 2);
        fault("x()", 1, 2);
        fault("x(f", 1, 3);
        fault("x(f)", 1, 3);
        fault("x(f=", 1, 4);
        fault("x(f=)", 1, 4);
        fault("x(f=0", 1, 5);
        fault("x(f=0;", 1, 5);
        fault("x(f=0);", 1, 7);
        fault("x(f=0)x(f=0)", 1, 6);
        fault("x(f=0);a", 1, 7);
        fault("x(f=0))", 1, 6);
        fault("x(f=0=1)", 1, 5);
        fault("x(f!0)", 1, 3);
        fault("x(f=!0)", 1, 4);
        fault("x(f=(0))", 1, 4);
        fault("x((f)=0)", 1, 4);
        fault("x((f+1)=0)", 1, 6);
        fault("x([f]=0", 1, 7);
        fault("x([f=0)", 1, 4);
        fault("x([f=0])", 1, 4);
        fault("x([f)=0", 1, 4);
        fault("x(f=0|)", 1, 6);
        fault("x(f=0&)", 1, 6);
        fault("x(f=0||f=0)", 1, 6);
        fault("x(f=0&&f=0)", 1, 6);
        fault("x(|f=0)", 1, 2);
        fault("x(!)", 1, 3);
        fault("x(!", 1, 3);
        fault("x(-1=0)", 1, 2);
        fault("x(1+=0)", 1, 4);
        fault("x(1+-1=0)", 1, 4);
        fault("x(1*/2=0)", 1, 4);
        fault("x(fe=0)", 1, 3);
        fault("x(e=0)", 1, 2);
        fault("x(d=0)", 1, 2);
        fault("x(ff=0)", 1, 3);
        fault("x(1f=0)", 1, 3);
        fault("x(f1=0)", 1, 3);
        fault("x(f<=0)", 1, 4);
        fault("d5+(f=0)", 1, 3);
        fault("d-5(f=0)", 1, 1);
        fault("d[5(f=0)", 1, 3);
        fault("d5](f=0)", 1, 2);
        fault("d[](f=0)", 1, 2);
        fault("d5!(f=0)", 1, 2);
        fault("x(f=0" + (char) 233 + ")", 1, 5);
        fault("x(f=0" + (char) 0 + ")", 1, 5);
        fault("x(f=0)" + (char) 255, 1, 6);
        // the first from the left
        fault("x(f=0|);d1234567(", 1, 6);
        fault("da123456", 1, 1);
        // the end, too: all of them but the last byte
        String text = "d[1+f]*2(!f=12345|(t<2&k>0));x(q=1)";
        for (int n = 1; n < text.length(); n++) {
            if (n != text.indexOf(';')) fault(text.substring(0, n), 1, n);
        }
        Due.due(text, Due.law(new TermLog(), text), 2);
    }

    private static void sixthDigit() {
        Due.says(0, "2 a sixth digit, at it;");
        fault("d123456(f=0)", 2, 6);
        fault("d000001(f=0)", 2, 6);
        fault("d123456", 2, 6);
        fault("d123456a", 2, 6);
        fault("x(f=1234567)", 2, 9);
        fault("x(123456=f)", 2, 7);
        fault("x(f=0);d5+999999(f", 2, 15);
        Due.due("five digits", Due.law(new TermLog(), "d12345(f=99999)"), 1);
        fault("d12345a", 1, 6);
    }

    private static void seventeenthRule() {
        Due.says(0, "4 a 17th RULE, at its letter (if that can stand there);");
        String sixteen = "x(f=0);".repeat(15) + "x(f=0)";
        TermLog x = new TermLog();
        Due.due("sixteen RULES", Due.law(x, sixteen), 16);
        Due.due("sixteen RULES, counted", x.count(4), 16);
        for (String letter : new String[] {"d", "l", "e", "x"}) {
            fault(sixteen + ";" + letter + "(f=0)", 4, 112);
            fault(sixteen + ";" + letter, 4, 112);
        }
        fault(sixteen + ";a", 1, 112);
        fault(sixteen + ";", 1, 112);
        fault(sixteen + ";;", 1, 112);
        fault(sixteen + "x", 1, 111);
        fault(sixteen.substring(0, 110) + ";x(f=0);", 1, 110);
    }

    private static void right(String law) {
        Due.due(law, Due.law(new TermLog(), law), 1);
    }

    private static void seventhOpen() {
        Due.says(0, "5 a seventh of ( [ ! that are open in one another, at it");
        right("x(((((f=0)))))");
        right("x((((((f=0))))))");
        fault("x(((((((f=0)))))))", 5, 7);
        right("x(!!!!f=0)");
        right("x(!!!!!f=0)");
        fault("x(!!!!!!f=0)", 5, 7);
        right("x([[[[f]]]]=0)");
        right("x([[[[[f]]]]]=0)");
        fault("x([[[[[[f]]]]]]=0)", 5, 7);
        right("x(f=[[[[[f]]]]])");
        fault("x(f=[[[[[[f]]]]]])", 5, 9);
        right("x(!(!([f]=0)))");
        right("x(!(!([0]=[f])))");
        fault("x(!(!([[f]]=0)))", 5, 7);
        fault("x(!(!(![f]=0)))", 5, 7);
        fault("x(!(!(!(f=0))))", 5, 7);
        fault("x(!(!(((f=0)))))", 5, 7);
        // at it, whatever is behind it
        fault("x(((((((", 5, 7);
        fault("x(!!!!!!", 5, 7);
        fault("x(!!!!!)", 1, 7);
        fault("x(f=0);x(!!!!!!f=0)", 5, 14);
    }

    private static void openTillItEnds() {
        Due.says(0, "(the ( of the RULE counts; a ! is open till its TEST ends; the E of a RULE stands ahead"
                + " of it).");
        // the E of a RULE has six of its own
        right("d[[[[[[f]]]]]](f=0)");
        right("d[[[[[[f]]]]]]((((((f=0))))))");
        fault("d[[[[[[[f]]]]]]](f=0)", 5, 7);
        // ( and [ are open till they are closed
        right("x((((((f=0)))))&([[[[f]]]]=[[[[f]]]]))");
        right("x((((((f=0)))))&((((f=0)))))");
        right("x([[[[[f]]]]]=[[[[[f]]]]])");
        right("x([[[[[f]]]]]+[[[[[f]]]]]=0)");
        // a ! is open till its TEST ends
        right("x(!!!!!f=0&!!!!!f=0)");
        right("x(!!!!!f=0|!!!!!f=0)");
        right("x(!!!!f=0&[[[[[f]]]]]=0)");
        right("x(!(!f=0&!f=0&([f]=0)))");
        fault("x(!!!!f=0&!!!!!![f]=0)", 5, 15);
        fault("x(!!!!![f]=0)", 5, 7);
        fault("x(!!!!!f=[0])", 5, 9);
        fault("x(!!!!!(f=0))", 5, 7);
        right("x(!!!![f]=[0])");
    }
}
