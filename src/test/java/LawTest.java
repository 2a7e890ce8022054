/** Promise 11 and what THE LAW does: by TIMERS set and MESSAGES sent under it. */
public final class LawTest {
    private LawTest() {}

    public static void main(String[] args) {
        numbers();
        tests();
        refusedDivisions();
        letters();
        firstRuleThatHolds();
        whatIsSent();
        faults();
        depth();
        lengths();
        staysAndGoes();
        Due.end("LawTest");
    }

    /** What NODE 3's TIMER has above the DRAW when it comes up under this LAW at TICK 0. */
    private static int least(String law) {
        TermLog x = new TermLog();
        Due.law(x, law);
        x.crash(3);
        x.comeUp(3);
        return x.nodeIs(3, 7) - x.count(6) % 10;
    }

    private static void worth(String e, int want) {
        Due.due("e" + e + "(f=f)", least("e" + e + "(f=f)"), want);
    }

    private static void holds(String c, boolean want) {
        Due.due("e20(" + c + ")", least("e20(" + c + ")"), want ? 20 : 8);
    }

    private static void numbers() {
        worth("5", 5);
        worth("4", 4);
        worth("3", 4);
        worth("0-9", 4);
        worth("40", 40);
        worth("41", 40);
        worth("99999", 40);
        worth("00012", 12);
        worth("9+9", 18);
        worth("30-9-9", 12);
        worth("2+3*4", 14);
        worth("[2+3]*4", 20);
        worth("7/2*4", 12);
        worth("39%20*2", 38);
        worth("40-[10-[3-1]]", 32);
        worth("[0-7]%4+9", 6);
        worth("[0-7]/2+9", 6);
        worth("2*3*4/5%3+9", 10);
        worth("99999*99999/99999/1000", 14);
        worth("f*5", 15);
    }

    private static void tests() {
        holds("1<2", true);
        holds("2<2", false);
        holds("3>2", true);
        holds("2>2", false);
        holds("2=2", true);
        holds("2=1", false);
        holds("!2=1", true);
        holds("!!2=1", false);
        holds("(2=1)", false);
        holds("!(2=1)", true);
        holds("1=1&1=2", false);
        holds("1=2|1=1", true);
        holds("1=1|1=1&1=2", true);
        holds("(1=1|1=1)&1=2", false);
        holds("1=2&1=1|1=1", true);
        holds("1=2&(1=1|1=1)", false);
        holds("!1=1&1=2", false);
        holds("!1=1|1=1", true);
        holds("1=2|1=2|1=2", false);
        holds("1=2|1=2|1=1", true);
        holds("1=1&1=1&1=1", true);
        holds("1=1&1=1&1=2", false);
        holds("0-1<0", true);
        holds("99999*99999<0", false);
        holds("99999*30000<0", true);
        holds("99999*99999=99999*99998+99999", true);
        holds("[0-7]%3=0-1", true);
        holds("7%[0-3]=1", true);
        holds("[0-7]/2=0-3", true);
    }

    private static void refusedDivisions() {
        holds("1/0=0", false);
        holds("!1/0=0", false);
        holds("1%0=0", false);
        holds("!(1%0=0)", false);
        holds("1=1|1/0=0", true);
        holds("1/0=0|1=1", false);
        holds("1=2&1/0=0|1=1", true);
        holds("1=1&1/0=0|1=1", false);
        holds("!(1=1|1/0=0)|2=2", true);
        holds("1/[2-2]=0|1=1", false);
        holds("[5/0]*0=0|1=1", false);
        worth("30/0", 4);
        worth("30+1%0", 4);
        Due.due("a RULE behind a refused C", least("e30(1/0=0);e12(f=f)"), 12);
        Due.due("a refused E is that RULE's", least("e30/0(f=f);e12(f=f)"), 4);
        Due.due("no C, no E is asked", least("e30/0(f=2);e12(f=f)"), 12);
    }

    private static void letters() {
        holds("f=3&t=3&k=6&n=0&q=0&s=0", true);
        TermLog x = new TermLog();
        Due.law(x, "e10+w(f=f)");
        x.crash(2);
        x.comeUp(2);
        Due.due("w in e", x.nodeIs(2, 7), 10 + 2 * (x.count(6) % 10));
        // THE TICK, the TERM, what is on its way when NODE 6 comes up
        x = Due.ledByZero(127);
        int tick = x.count(0);
        Due.due("on their way", x.count(2), 6);
        Due.law(x, "e20(s=" + tick + "&q=6&n=1&f=6)");
        x.crash(6);
        x.comeUp(6);
        Due.due("s, q, n, f in e", x.nodeIs(6, 7) - x.count(6) % 10, 20);
        // modulo 100
        x = new TermLog();
        x.ticks(123 - 23);
        Due.law(x, "e4(s=0);e20(s=1);e30(s=23)");
        x.crash(6);
        x.comeUp(6);
        Due.due("s at 100", x.nodeIs(6, 7) - x.count(6) % 10, 4);
        x.ticks(1);
        x.crash(6);
        x.comeUp(6);
        Due.due("s at 101", x.nodeIs(6, 7) - x.count(6) % 10, 20);
    }

    private static void firstRuleThatHolds() {
        Due.due("first", least("e20(f=3);e30(f=3)"), 20);
        Due.due("second", least("e20(f=2);e30(f=3)"), 30);
        Due.due("none", least("e20(f=2);e30(f=4)"), 8);
        Due.due("of e alone", least("d20(f=3);l30(f=3);e12(f=3)"), 12);
    }

    private static void whatIsSent() {
        // d: how many TICKS more, 0 to 9
        sentUnder("d3(k=2)", 1, 4, 0);
        sentUnder("d3(k=0)", 1, 1, 0);
        sentUnder("d9(f=0&t>0)", 1, 10, 0);
        sentUnder("d10(f=f)", 1, 10, 0);
        sentUnder("d0-4(f=f)", 1, 1, 0);
        sentUnder("d4/0(f=f)", 1, 1, 0);
        sentUnder("d2(q=1);d5(q=0)", 1, 6, 0);
        sentUnder("dn+n(f=f)", 1, 3, 0);
        // l: lost if the DRAW is below it
        sentUnder("l10(f=f)", 1, 0, 6);
        sentUnder("l99(f=f)", 1, 0, 6);
        sentUnder("l0(f=f)", 1, 1, 0);
        sentUnder("l0-1(f=f)", 1, 1, 0);
        for (int l = 1; l < 10; l++) {
            TermLog x = Due.settled(127);
            int lost = 0;
            for (int i = 1; i <= 6; i++) {
                if (Due.xBehind(x.count(6), i) % 10 < l) lost++;
            }
            Due.law(x, "l" + l + "(f=f)");
            int before = x.count(8);
            x.write(0, 0, 0);
            Due.due("lost by l" + l, x.count(8) - before, lost);
        }
        // x: lost if any holds
        sentUnder("x(f=0)", 1, 0, 6);
        sentUnder("x(f=1);x(k=2)", 1, 0, 6);
        sentUnder("x(f=1);x(k=3)", 1, 1, 0);
        sentUnder("x(t>3)", 1, 1, 3);
        sentUnder("x(1/0=0)", 1, 1, 0);
        sentUnder("x(w<0)", 1, 1, 0);
        sentUnder("x(q>3)", 1, 1, 2);
    }

    /** A write to seven: when the first MESSAGE is due from now on (none: 0), how many are lost. */
    private static void sentUnder(String law, int rules, int dueIn, int lost) {
        TermLog x = Due.settled(127);
        Due.tickTill(x, y -> y.count(2) == 0);
        int answer = Due.law(x, law);
        Due.due(law, answer, 1 + (int) law.chars().filter(c -> c == ';').count());
        int before = x.count(8);
        int x6 = Due.xBehind(x.count(6), 6);
        x.write(0, 1, 1);
        Due.due(law + ": DRAWS", x.count(6), x6);
        Due.due(law + ": lost", x.count(8) - before, lost);
        Due.due(law + ": on their way", x.count(2), 6 - lost);
        if (dueIn > 0) Due.due(law + ": due", x.message(0, 4) - x.count(0), dueIn);
        else Due.due(law + ": due", x.message(0, 4), -4);
    }

    private static void fault(String law, int number, int place) {
        TermLog x = new TermLog();
        Due.due(law, Due.law(x, law), -1000 * number - place);
        Due.due(law + ": RULES", x.count(4), 0);
        Due.due(law + ": tape", x.count(5), 0);
    }

    private static void faults() {
        fault("a", 1, 0);
        fault(";", 1, 0);
        fault("D5(f=0)", 1, 0);
        fault(" d5(f=0)", 1, 0);
        fault("d 5(f=0)", 1, 1);
        fault("d", 1, 1);
        fault("d5", 1, 2);
        fault("d(f=0)", 1, 1);
        fault("x5(f=0)", 1, 1);
        fault("x", 1, 1);
        fault("x(", 1, 2);
        fault("x()", 1, 2);
        fault("x(f", 1, 3);
        fault("x(f)", 1, 3);
        fault("x(f=", 1, 4);
        fault("x(f=)", 1, 4);
        fault("x(f=0", 1, 5);
        fault("x(f=0;", 1, 5);
        fault("x(f=0);", 1, 7);
        fault("x(f=0)x(f=0)", 1, 6);
        fault("x(f=0);a", 1, 7);
        fault("x(f=0))", 1, 6);
        fault("x(f=0=1)", 1, 5);
        fault("x(f!0)", 1, 3);
        fault("x(f=!0)", 1, 4);
        fault("x(f=(0))", 1, 4);
        fault("x((f)=0)", 1, 4);
        fault("x([f]=0", 1, 7);
        fault("x([f=0)", 1, 4);
        fault("x([f)=0", 1, 4);
        fault("x(f=0|)", 1, 6);
        fault("x(f=0&)", 1, 6);
        fault("x(f=0||f=0)", 1, 6);
        fault("x(|f=0)", 1, 2);
        fault("x(!)", 1, 3);
        fault("x(-1=0)", 1, 2);
        fault("x(1+=0)", 1, 4);
        fault("x(1*/2=0)", 1, 4);
        fault("x(fe=0)", 1, 3);
        fault("x(e=0)", 1, 2);
        fault("x(d=0)", 1, 2);
        fault("x(ff=0)", 1, 3);
        fault("x(1f=0)", 1, 3);
        fault("x(f1=0)", 1, 3);
        fault("d5+(f=0)", 1, 3);
        fault("d-5(f=0)", 1, 1);
        fault("d[5(f=0)", 1, 3);
        fault("d5](f=0)", 1, 2);
        fault("d[](f=0)", 1, 2);
        fault("x(f=0" + (char) 233 + ")", 1, 5);
        fault("x(f=0" + (char) 0 + ")", 1, 5);
        // a sixth digit
        fault("d123456(f=0)", 2, 6);
        fault("d000001(f=0)", 2, 6);
        fault("x(f=1234567)", 2, 9);
        fault("x(f=0);d5+999999(f", 2, 15);
        Due.due("five digits", Due.law(new TermLog(), "d12345(f=99999)"), 1);
        // the first from the left
        fault("d123456a", 2, 6);
        fault("da123456", 1, 1);
        // a 17th RULE
        String sixteen = "x(f=0);".repeat(15) + "x(f=0)";
        TermLog x = new TermLog();
        Due.due("sixteen RULES", Due.law(x, sixteen), 16);
        Due.due("sixteen RULES, counted", x.count(4), 16);
        for (String letter : new String[] {"d", "l", "e", "x"}) {
            fault(sixteen + ";" + letter + "(f=0)", 4, 112);
            fault(sixteen + ";" + letter, 4, 112);
        }
        fault(sixteen + ";a", 1, 112);
        fault(sixteen + ";", 1, 112);
        fault(sixteen + "x", 1, 111);
    }

    private static void depth() {
        Due.due("six (", Due.law(new TermLog(), "x((((((f=0))))))"), 1);
        fault("x(((((((f=0)))))))", 5, 7);
        Due.due("six !", Due.law(new TermLog(), "x(!!!!!f=0)"), 1);
        fault("x(!!!!!!f=0)", 5, 7);
        Due.due("six [", Due.law(new TermLog(), "x([[[[[f]]]]]=0)"), 1);
        fault("x([[[[[[f]]]]]]=0)", 5, 7);
        Due.due("six [ in E", Due.law(new TermLog(), "d[[[[[[f]]]]]](f=0)"), 1);
        fault("d[[[[[[[f]]]]]]](f=0)", 5, 7);
        Due.due("( [ ! in one another", Due.law(new TermLog(), "x(!(!([f]=0)))"), 1);
        fault("x(!(!([[f]]=0)))", 5, 7);
        fault("x(!(!(![f]=0)))", 5, 7);
        fault("x(!(!(!(f=0))))", 5, 7);
        // a ! is open till its TEST ends, ( and [ till they are closed
        Due.due("one behind the other", Due.law(new TermLog(), "x(!!!!!f=0&!!!!!f=0)"), 1);
        Due.due("closed again", Due.law(new TermLog(), "x((((((f=0)))))&([[[[f]]]]=[[[[f]]]]))"), 1);
        fault("x(!!!!f=0&!!!!!![f]=0)", 5, 15);
        fault("x(!!!!![f]=0)", 5, 7);
        fault("x(!!!!!(f=0))", 5, 7);
        // what can't stand there is told of the same place first
        fault("x(!!!!!!", 5, 7);
        fault("x(!!!!!)", 1, 7);
    }

    private static void lengths() {
        TermLog x = new TermLog();
        Due.due("law(1) of none", x.law(1), -1);
        Due.feed(x, "x(f=0)");
        Due.due("law(0)", x.law(0), -1);
        Due.due("law(-1)", x.law(-1), -1);
        Due.due("law(21)", x.law(21), -1);
        Due.due("law(241)", x.law(241), -1);
        Due.due("law(MIN)", x.law(Integer.MIN_VALUE), -1);
        Due.due("law(MAX)", x.law(Integer.MAX_VALUE), -1);
        Due.due("the tape stays", x.count(5), 20);
        Due.due("law(6)", x.law(6), 1);
        Due.due("empty then", x.count(5), 0);
        // 240 bytes: all of them asked
        String exact = "e9+000" + "+1".repeat(114) + "0(f=3)";
        Due.due("240 bytes", exact.length(), 240);
        x = new TermLog();
        Due.feed(x, exact);
        Due.due("law(240)", x.law(240), 1);
        Due.feed(x, exact + "x");
        Due.due("260 on the tape", x.count(5), 260);
        Due.due("law(241) of 260", x.law(241), -1);
        Due.due("law(240) of 260", x.law(240), 1);
        Due.due("empty behind 240 of 260", x.count(5), 0);
    }

    private static void staysAndGoes() {
        TermLog x = new TermLog();
        Due.due("a LAW", Due.law(x, "e20(f=f);x(f=0)"), 2);
        Due.due("a FAULT", Due.law(x, "e30(f=f"), -1007);
        Due.due("the one before stays", x.count(4), 2);
        x.crash(1);
        x.comeUp(1);
        Due.due("and is asked", x.nodeIs(1, 7) - x.count(6) % 10, 20);
        Due.due("another LAW", Due.law(x, "d1(f=f)"), 1);
        x.crash(1);
        x.comeUp(1);
        Due.due("in place of it", x.nodeIs(1, 7) - x.count(6) % 10, 8);
        x.keep();
        Due.law(x, "e9(f=f);e9(f=f);e9(f=f)");
        x.undo();
        Due.due("THE LAW is not KEPT", x.count(4), 3);
        x.found(3);
        Due.due("THE LAW stays", x.count(4), 3);
    }
}
