import java.util.function.Predicate;

/** What the tests share: what is due is held against what is answered, texts go by the tape. */
final class Due {
    private static int wrong = 0;
    private static int asked = 0;
    private static int sentences = 0;
    /** The sentence of the document that is held now, and how many answers held it so far. */
    private static String sentence = "";
    private static int held = 1;

    private Due() {}

    /**
     * What follows holds this sentence of a part of the document (0: 'Terms', 1 to 31: that
     * promise), told in its own words.
     */
    static void says(int part, String words) {
        endSentence();
        sentence = "[" + (part == 0 ? "Terms" : "Promise " + part) + ": " + words + "]\n  ";
        held = 0;
        sentences++;
        if (Doc.timesIn(part, words) != 1) {
            wrong++;
            System.out.println(sentence + "stands there " + Doc.timesIn(part, words) + " times");
        }
    }

    private static void endSentence() {
        if (held > 0) return;
        wrong++;
        System.out.println(sentence + "is held by no answer");
    }

    static void due(String call, long got, long want) {
        asked++;
        held++;
        if (got == want) return;
        wrong++;
        System.out.println(sentence + call + " answered " + got + ", due is " + want);
    }

    static void due(String call, boolean got, boolean want) {
        due(call, got ? 1 : 0, want ? 1 : 0);
    }

    static void due(String call, String got, String want) {
        asked++;
        held++;
        if (got.equals(want)) return;
        wrong++;
        int at = 0;
        while (at < got.length() && at < want.length() && got.charAt(at) == want.charAt(at)) at++;
        System.out.println(sentence + call + " answered .." + got.substring(Math.max(0, at - 60))
                + "\n  due is .." + want.substring(Math.max(0, at - 60)));
    }

    /** Ends the test, with exit code 1 if an answer was not the one that is due. */
    static void end(String test) {
        endSentence();
        String of = sentences == 0 ? "" : " to " + sentences + " sentences of the document";
        if (wrong == 0) System.out.println(test + ": " + asked + " answers are as due" + of);
        else System.out.println(test + ": " + wrong + " answers are not as due");
        if (wrong != 0) System.exit(1);
    }

    /** Lays a text on the tape; as many bytes follow it as fill a feed. */
    static void feed(TermLog x, String text) {
        for (int at = 0; at < text.length(); at += 20) {
            int[] five = new int[5];
            for (int i = 0; i < 20; i++) {
                int c = at + i < text.length() ? text.charAt(at + i) : 'a';
                five[i / 4] = five[i / 4] << 8 | c;
            }
            x.feed(five[0], five[1], five[2], five[3], five[4]);
        }
    }

    static int law(TermLog x, String text) {
        feed(x, text);
        return x.law(text.length());
    }

    static int plan(TermLog x, String text) {
        feed(x, text);
        return x.plan(text.length());
    }

    /** X behind so many DRAWS. */
    static int xBehind(int x, int draws) {
        long y = x;
        for (int i = 0; i < draws; i++) y = (25173 * y + 13849) % 65536;
        return (int) y;
    }

    /** TICKS till something is so; wrong if it is not so in the longest time that could need. */
    static void tickTill(TermLog x, Predicate<TermLog> isSo) {
        for (int i = 0; i < 120 && !isSo.test(x); i++) x.ticks(1);
        due("what is waited for", isSo.test(x), true);
    }

    /** TICKS till a NODE has a TERM; by what is tried, so that few calls are needed. */
    static void tickToTerm(TermLog x, int n, int term) {
        for (int i = 0; i < 49 && x.tried(200, 20 + n) < term; i++) x.ticks(200);
        int least = 1;
        int most = 200;
        while (least < most) {
            int middle = (least + most) / 2;
            if (x.tried(middle, 20 + n) < term) least = middle + 1;
            else most = middle;
        }
        x.ticks(least);
        due("TERM of " + n, x.nodeIs(n, 1), term);
    }

    /** TICKS till no MESSAGE is on its way. */
    static void quiet(TermLog x) {
        tickTill(x, y -> y.count(2) == 0);
    }

    /** The place of the first MESSAGE on its way of a KIND between two; -1: there is none. */
    static int find(TermLog x, int from, int to, int kind) {
        for (int i = 0; i < x.count(2); i++) {
            if (x.message(i, 0) == from && x.message(i, 1) == to && x.message(i, 2) == kind) return i;
        }
        return -1;
    }

    private static boolean isSentTo(TermLog x, int n) {
        for (int i = 0; i < x.count(2); i++) {
            if (x.message(i, 1) == n && (x.message(i, 2) == 2 || x.message(i, 2) == 4)) return true;
        }
        return false;
    }

    /** All MESSAGES on their way, as from, to, KIND: "012 022 " are two of KIND 2 from 0. */
    static String way(TermLog x) {
        StringBuilder b = new StringBuilder();
        for (int i = 0; i < x.count(2); i++) {
            b.append(x.message(i, 0)).append(x.message(i, 1)).append(x.message(i, 2)).append(' ');
        }
        return b.toString();
    }

    /** A SEED behind which the next DRAWS are these; there must be one. */
    static int seedFor(int... draws) {
        for (int x = 0; x < 65536; x++) {
            int like = 0;
            while (like < draws.length && xBehind(x, like + 1) % 10 == draws[like]) like++;
            if (like == draws.length) return x;
        }
        throw new IllegalArgumentException("no such SEED");
    }

    /**
     * A NODE that is UP stands four TICKS from now on, as it comes up with a DRAW of 0; no LEADER
     * is heard by it under the LAW that stays.
     */
    static void standSoon(TermLog x, int n) {
        law(x, "e4(f=" + n + ");e40(f=f);x(t=" + n + "&(k=2|k=4))");
        tickTill(x, y -> !isSentTo(y, n));
        x.crash(n);
        x.seed(seedFor(0));
        x.comeUp(n);
        due("TIMER of " + n, x.nodeIs(n, 7), 4);
    }

    /** A NODE that is UP stands soon and LEADS; ends in the TICK it does so. */
    static void makeLead(TermLog x, int n) {
        standSoon(x, n);
        tickTill(x, y -> y.leaderNow() == n);
    }

    /** NODE 0 of those stands first, as none other does for 40 TICKS. */
    static TermLog ledByZero(int some) {
        TermLog x = new TermLog();
        law(x, "e4(f=0);e40(f=f)");
        x.found(some);
        tickTill(x, y -> y.leaderNow() == 0);
        return x;
    }

    /** As ledByZero(), and the first ENTRY is HELD by all. */
    static TermLog settled(int some) {
        TermLog x = ledByZero(some);
        x.ticks(6);
        return x;
    }

    /** What can be seen of all, by some 330 calls. */
    static String seen(TermLog x) {
        StringBuilder b = new StringBuilder();
        for (int n = 0; n < 7; n++) {
            b.append("\nnode ").append(n).append(':');
            for (int what = 0; what < 14; what++) b.append(' ').append(x.nodeIs(n, what));
            b.append(" keys");
            for (int key = 0; key < 18; key += 3) b.append(' ').append(x.keyOf(n, key));
            b.append(" log");
            for (int i = 1; i <= 4; i++) b.append(' ').append(x.entryAt(n, i, 0));
            int last = x.nodeIs(n, 4);
            for (int i = last; i > last - 4; i--) b.append(' ').append(x.entryAt(n, i, 3));
            b.append(" about");
            for (int what = 0; what < 3; what++) b.append(' ').append(x.about(0, n, what));
        }
        b.append("\ncount");
        for (int what = 0; what < 10; what++) b.append(' ').append(x.count(what));
        b.append("\nway");
        for (int i = 0; i < 3; i++) {
            for (int what = 0; what < 6; what++) b.append(' ').append(x.message(i, what));
        }
        b.append("\nreads");
        for (int i = 0; i < 2; i++) {
            for (int what = 0; what < 4; what++) b.append(' ').append(x.readIs(i, what));
        }
        b.append("\nheld");
        for (int i = 1; i <= 4; i++) b.append(' ').append(x.heldAt(i, 0)).append(x.heldAt(i, 1));
        b.append("\nbroken ").append(x.broken(0)).append(x.broken(1)).append(x.broken(2));
        b.append("\nahead ").append(x.tried(20, 2)).append(' ').append(x.till(40, 1));
        return b.toString();
    }
}
