import java.util.function.Predicate;

/** What the tests share: what is due is held against what is answered, texts go by the tape. */
final class Due {
    private static int wrong = 0;
    private static int asked = 0;

    private Due() {}

    static void due(String call, long got, long want) {
        asked++;
        if (got == want) return;
        wrong++;
        System.out.println(call + " answered " + got + ", due is " + want);
    }

    static void due(String call, boolean got, boolean want) {
        due(call, got ? 1 : 0, want ? 1 : 0);
    }

    static void due(String call, String got, String want) {
        asked++;
        if (got.equals(want)) return;
        wrong++;
        int at = 0;
        while (at < got.length() && at < want.length() && got.charAt(at) == want.charAt(at)) at++;
        System.out.println(call + " answered .." + got.substring(Math.max(0, at - 60))
                + "\n  due is .." + want.substring(Math.max(0, at - 60)));
    }

    /** Ends the test, with exit code 1 if an answer was not the one that is due. */
    static void end(String test) {
        if (wrong == 0) System.out.println(test + ": " + asked + " answers are as due");
        else System.out.println(test + ": " + wrong + " answers are not as due");
        if (wrong != 0) System.exit(1);
    }

    /** Lays a text on the tape; as many bytes follow it as fill a feed. */
    static void feed(TermLog x, String text) {
        for (int at = 0; at < text.length(); at += 20) {
            int[] five = new int[5];
            for (int i = 0; i < 20; i++) {
                int c = at + i < text.length() ? text.charAt(at + i) : 'a';
                five[i / 4] = five[i / 4] << 8 | c;
            }
            x.feed(five[0], five[1], five[2], five[3], five[4]);
        }
    }

    static int law(TermLog x, String text) {
        feed(x, text);
        return x.law(text.length());
    }

    static int plan(TermLog x, String text) {
        feed(x, text);
        return x.plan(text.length());
    }

    /** X behind so many DRAWS. */
    static int xBehind(int x, int draws) {
        long y = x;
        for (int i = 0; i < draws; i++) y = (25173 * y + 13849) % 65536;
        return (int) y;
    }

    /** TICKS till something is so; wrong if it is not so in the longest time that could need. */
    static void tickTill(TermLog x, Predicate<TermLog> isSo) {
        for (int i = 0; i < 120 && !isSo.test(x); i++) x.ticks(1);
        due("what is waited for", isSo.test(x), true);
    }

    /** NODE 0 of those stands first, as none other does for 40 TICKS. */
    static TermLog ledByZero(int some) {
        TermLog x = new TermLog();
        law(x, "e4(f=0);e40(f=f)");
        x.found(some);
        tickTill(x, y -> y.leaderNow() == 0);
        return x;
    }

    /** As ledByZero(), and the first ENTRY is HELD by all. */
    static TermLog settled(int some) {
        TermLog x = ledByZero(some);
        x.ticks(6);
        return x;
    }

    /** What can be seen of all, by some 330 calls. */
    static String seen(TermLog x) {
        StringBuilder b = new StringBuilder();
        for (int n = 0; n < 7; n++) {
            b.append("\nnode ").append(n).append(':');
            for (int what = 0; what < 14; what++) b.append(' ').append(x.nodeIs(n, what));
            b.append(" keys");
            for (int key = 0; key < 18; key += 3) b.append(' ').append(x.keyOf(n, key));
            b.append(" log");
            for (int i = 1; i <= 4; i++) b.append(' ').append(x.entryAt(n, i, 0));
            b.append(" about");
            for (int what = 0; what < 3; what++) b.append(' ').append(x.about(0, n, what));
        }
        b.append("\ncount");
        for (int what = 0; what < 10; what++) b.append(' ').append(x.count(what));
        b.append("\nway");
        for (int i = 0; i < 3; i++) {
            for (int what = 0; what < 6; what++) b.append(' ').append(x.message(i, what));
        }
        b.append("\nreads");
        for (int i = 0; i < 2; i++) {
            for (int what = 0; what < 4; what++) b.append(' ').append(x.readIs(i, what));
        }
        b.append("\nheld");
        for (int i = 1; i <= 4; i++) b.append(' ').append(x.heldAt(i, 0)).append(x.heldAt(i, 1));
        b.append("\nbroken ").append(x.broken(0)).append(x.broken(1)).append(x.broken(2));
        b.append("\nahead ").append(x.tried(20, 2)).append(' ').append(x.till(40, 1));
        return b.toString();
    }
}
