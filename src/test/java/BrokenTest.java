/**
 * What is told of a promise that is BROKEN, of twos that are not MATCHED or not ALIKE. No run of
 * calls comes to that, so that what is kept is spoilt from inside first.
 */
public final class BrokenTest {
    private BrokenTest() {}

    public static void main(String[] args) {
        heldEntryGoes();
        atCommitAndAboveIt();
        anotherIsHeld();
        anotherLeader();
        hintOfBase();
        readBelow();
        matched();
        matchedByTerm();
        alike();
        keptAndTried();
        Due.end("BrokenTest");
    }

    /** 0, 1, 2 have ENTRIES 1 to 4, all HELD: KEY 0 is 13. */
    private static TermLog fourHeld() {
        TermLog x = Due.settled(7);
        for (int i = 1; i <= 3; i++) x.write(0, 0, 10 + i);
        x.ticks(8);
        Due.quiet(x);
        Due.due("COMMIT of 1", x.nodeIs(1, 5), 4);
        Due.law(x, "e40(f=f)");
        return x;
    }

    /** 1 has another TERM at an INDEX, and 0 sends from there on, as if less were HELD. */
    private static void spoil(TermLog x, int index, int commit) {
        Inside in = new Inside(x);
        for (int i = index; i <= 4; i++) in.layAt(1, i, 9, 0, 0, 90 + i);
        Inside.set(in.node(0), "next", 1, index);
        Inside.set(in.node(0), "match", 1, 0);
        Inside.set(in.node(0), "commit", commit);
    }

    private static void heldEntryGoes() {
        Due.says(0, "(is that INDEX no more than COMMIT: a promise is BROKEN, COMMIT is the INDEX ahead"
                + " of it, KEYS stay) and it is laid;");
        TermLog x = fourHeld();
        spoil(x, 3, 1);
        Due.due("tried", x.tried(6, 3), 1);
        x.ask(0, 0);
        x.ticks(1);
        Due.due("BROKEN", x.broken(0), 1);
        Due.due("COMMIT is the INDEX ahead of it", x.nodeIs(1, 5), 2);
        Due.due("KEYS stay", x.keyOf(1, 0), 13);
        Due.due("it is laid", x.entryAt(1, 3, 3), 12);
        Due.due("the one behind it, too", x.entryAt(1, 4, 3), 13);
        Due.due("LAST", x.nodeIs(1, 4), 4);
    }

    private static void atCommitAndAboveIt() {
        Due.says(0, "is that INDEX no more than COMMIT: a promise is BROKEN");
        TermLog x = fourHeld();
        spoil(x, 4, 1);
        x.ask(0, 0);
        x.ticks(1);
        Due.due("at COMMIT", x.broken(0), 1);
        Due.due("COMMIT", x.nodeIs(1, 5), 3);
        x = fourHeld();
        spoil(x, 4, 1);
        Inside.set(new Inside(x).node(1), "commit", 3);
        x.ask(0, 0);
        x.ticks(1);
        Due.due("above COMMIT", x.broken(0), 0);
        Due.due("COMMIT stays", x.nodeIs(1, 5), 3);
        Due.due("it is laid", x.entryAt(1, 4, 3), 13);
    }

    private static void anotherIsHeld() {
        Due.says(0, "if another one is HELD there (TERM, KIND or what it says unlike), a promise is"
                + " BROKEN.");
        int[][] unlike = {{2, 0, 5, 50}, {1, 1, 5, 50}, {1, 0, 4, 50}, {1, 0, 5, 51}, {1, 0, 5, 50}};
        for (int i = 0; i < unlike.length; i++) {
            TermLog x = Due.settled(1);
            int[] e = unlike[i];
            Inside in = new Inside(x);
            Inside.set(in.world(), "held", 2, Inside.entry(e[0], e[1], e[2], e[3]));
            Inside.set(in.world(), "heldTop", 2);
            x.write(0, 5, 50);
            Due.due("case " + i, x.broken(0), i < 4 ? 1 : 0);
            Due.due("COMMIT grows all the same", x.nodeIs(0, 5), 2);
            Due.due("the first one stays", x.heldAt(2, 3), e[3]);
        }
    }

    private static void anotherLeader() {
        Due.says(0, "A LEADER of a TERM that has had another LEADER: a promise is BROKEN.");
        TermLog x = Due.settled(7);
        Due.makeLead(x, 0);
        leadOnce(x, 0, 0);
        leadOnce(x, 1, 1);
        leadOnce(x, 1, 2);
        leadOnce(x, 0, 3);
        x.keep();
        x.found(7);
        Due.due("nothing BROKEN since FOUNDED", x.broken(0), 0);
        Due.makeLead(x, 2);
        Due.due("nor by a TERM that was led before", x.broken(0), 0);
        x.undo();
        Due.due("KEPT", x.broken(0), 3);
    }

    /** All forget TERM 2 and their VOTES, and a NODE LEADS it once more. */
    private static void leadOnce(TermLog x, int n, int broken) {
        for (int k = 0; k < 3; k++) x.crash(k);
        Due.quiet(x);
        for (int k = 0; k < 3; k++) {
            x.comeUp(k);
            Inside.set(new Inside(x).node(k), "term", 1);
            Inside.set(new Inside(x).node(k), "vote", -2);
            Inside.set(new Inside(x).node(k), "logSize", 1);
        }
        Due.makeLead(x, n);
        Due.due("it LEADS TERM 2", x.nodeIs(n, 1), 2);
        Due.due("BROKEN by " + n, x.broken(0), broken);
    }

    /** PREV is BASE, and the TERM there is another one. */
    private static void hintOfBase() {
        Due.says(0, "(above BASE; of BASE: BASE, 1 at least), ROUND.");
        for (int base = 0; base < 2; base++) {
            TermLog x = fourHeld();
            if (base > 0) x.compact(1);
            Inside in = new Inside(x);
            Inside.set(Inside.get(in.node(1), "snapshot"), "term", 9);
            Inside.set(in.node(0), "next", 1, 4 * base + 1);
            Inside.set(in.node(0), "match", 1, 0);
            x.ask(0, 0);
            int round = x.nodeIs(0, 12);
            x.ticks(1);
            Due.due("nothing is taken", x.nodeIs(1, 4), 4);
            Due.law(x, "e40(f=f);d9(k=2)");
            x.ticks(1);
            Due.due("BASE, 1 at least", x.about(0, 1, 0), base > 0 ? 4 : 1);
            Due.due("ROUND", x.about(0, 1, 2), round);
            Due.due("MATCH", x.about(0, 1, 1), 0);
        }
    }

    private static void readBelow() {
        Due.says(0, "is COMMIT below that greatest INDEX, a promise is BROKEN.");
        for (int above = 0; above < 2; above++) {
            TermLog x = fourHeld();
            Due.due("a READ", x.ask(0, 0), 0);
            Inside.set(new Inside(x).read(0), "heldThen", 4 + above);
            x.ticks(2);
            Due.due("answered", x.readIs(0, 1), 13);
            Due.due("COMMIT 4, greatest " + (4 + above), x.broken(0), above);
        }
        // the greatest of all, not what the LEADER knows
        TermLog x = fourHeld();
        Inside.set(new Inside(x).world(), "heldTop", 7);
        x.ask(0, 0);
        x.ticks(2);
        Due.due("of all", x.broken(0), 1);
    }

    private static void matched() {
        Due.says(0, "MATCHED: twos of NODES such that, at each INDEX both have ENTRIES at, if the TERM is"
                + " the same at one all ENTRIES both have up to it are the same (that is promised).");
        TermLog x = fourHeld();
        Due.due("all are", x.broken(1), 0);
        new Inside(x).layAt(2, 4, 1, 0, 0, 99);
        Due.due("unlike at the INDEX itself: 0, 1 with 2", x.broken(1), 2);
        x = fourHeld();
        new Inside(x).layAt(2, 1, 1, 2, 0, 1);
        Due.due("unlike at the first", x.broken(1), 2);
        x = fourHeld();
        new Inside(x).layAt(2, 2, 1, 0, 7, 11);
        Due.due("another KEY below it", x.broken(1), 2);
        x = fourHeld();
        new Inside(x).layAt(2, 2, 1, 1, 0, 11);
        Due.due("another KIND below it", x.broken(1), 2);
        new Inside(x).layAt(1, 2, 1, 2, 0, 11);
        Due.due("each with each", x.broken(1), 3);
        x.crash(1);
        x.crash(2);
        Due.due("DOWN ones, too", x.broken(1), 3);
        x.comeUp(1);
        x.compact(0);
        Due.due("0 has none of them", x.nodeIs(0, 6), 4);
        Due.due("ENTRIES that both have", x.broken(1), 1);
    }

    private static void matchedByTerm() {
        Due.says(0, "if the TERM is the same at one all ENTRIES both have up to it are the same");
        TermLog x = fourHeld();
        new Inside(x).layAt(2, 4, 9, 0, 0, 99);
        Due.due("another TERM at the last", x.broken(1), 0);
        new Inside(x).layAt(2, 3, 8, 0, 0, 99);
        Due.due("another TERM at the last two", x.broken(1), 0);
        new Inside(x).layAt(2, 4, 1, 0, 0, 13);
        Due.due("another TERM below one that is the same", x.broken(1), 2);
        // of ENTRIES that both have alone: 2 has one more
        x = fourHeld();
        Due.law(x, "e40(f=f);x(t=1)");
        x.write(0, 0, 14);
        x.ticks(1);
        Due.due("LAST of 2", x.nodeIs(2, 4) * 10 + x.nodeIs(1, 4), 54);
        Due.due("one more", x.broken(1), 0);
    }

    private static void alike() {
        Due.says(0, "ALIKE: twos of NODES with the same COMMIT have the same KEYS (at COMMIT 0, too).");
        TermLog x = fourHeld();
        Due.due("all are", x.broken(2), 0);
        Inside.set(new Inside(x).node(2), "keys", 7, 1);
        Due.due("0, 1 with 2", x.broken(2), 2);
        Inside.set(new Inside(x).node(2), "commit", 3);
        Due.due("another COMMIT", x.broken(2), 0);
        Inside.set(new Inside(x).node(5), "keys", 0, 1);
        Due.due("at COMMIT 0: 5 with 3, 4, 6", x.broken(2), 3);
        x.crash(3);
        Due.due("UP ones alone", x.broken(2), 2);
        x.crash(5);
        Due.due("not a DOWN one", x.broken(2), 0);
    }

    private static void keptAndTried() {
        Due.says(23, "What 0 promises BROKEN, 1 twos of NODES that are not MATCHED (DOWN ones, too), 2 that"
                + " are not ALIKE (UP ones alone);");
        TermLog x = fourHeld();
        spoil(x, 3, 1);
        Due.due("BROKEN then", x.tried(9, 3), 1);
        Due.due("none now", x.broken(0), 0);
        x.ticks(9);
        Due.due("one", x.broken(0), 1);
        x.keep();
        x.found(7);
        Due.due("nothing BROKEN since FOUNDED", x.broken(0), 0);
        x.undo();
        Due.due("KEPT", x.broken(0), 1);
        Due.due("BROKEN before and then", x.tried(1, 3), 1);
    }
}
