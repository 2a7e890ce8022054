import java.util.ArrayList;
import java.util.List;
import java.util.Random;

/** TermLog and Model called alike, at most 512 times; the first unlike answer ends the run. */
final class Both {
    static final int MOST_CALLS = 512;

    final TermLog log = new TermLog();
    final Model model = new Model();
    final List<String> calls = new ArrayList<>();
    boolean unlike;

    boolean isOver() {
        return unlike || calls.size() >= MOST_CALLS;
    }

    private int same(String call, int got, int want) {
        calls.add(call + " = " + got);
        if (got != want && !unlike) {
            unlike = true;
            calls.add("  the model answers " + want);
        }
        return want;
    }

    private int same(String call, boolean got, boolean want) {
        return same(call, got ? 1 : 0, want ? 1 : 0);
    }

    int found(int some) {
        return same("found(" + some + ")", log.found(some), model.found(some));
    }

    int crash(int n) {
        return same("crash(" + n + ")", log.crash(n), model.crash(n));
    }

    int comeUp(int n) {
        return same("comeUp(" + n + ")", log.comeUp(n), model.comeUp(n));
    }

    int cut(int a, int b, boolean is) {
        return same("cut(" + a + ", " + b + ", " + is + ")", log.cut(a, b, is),
                model.cut(a, b, is));
    }

    int compact(int n) {
        return same("compact(" + n + ")", log.compact(n), model.compact(n));
    }

    int write(int n, int key, int value) {
        return same("write(" + n + ", " + key + ", " + value + ")", log.write(n, key, value),
                model.write(n, key, value));
    }

    int change(int n, int some) {
        return same("change(" + n + ", " + some + ")", log.change(n, some),
                model.change(n, some));
    }

    int ask(int n, int key) {
        return same("ask(" + n + ", " + key + ")", log.ask(n, key), model.ask(n, key));
    }

    int feed(int a, int b, int c, int d, int e) {
        return same("feed(" + a + ", " + b + ", " + c + ", " + d + ", " + e + ")",
                log.feed(a, b, c, d, e), model.feed(a, b, c, d, e));
    }

    int law(int n) {
        return same("law(" + n + ")", log.law(n), model.law(n));
    }

    int plan(int n) {
        return same("plan(" + n + ")", log.plan(n), model.plan(n));
    }

    int ticks(int n) {
        return same("ticks(" + n + ")", log.ticks(n), model.ticks(n));
    }

    int seed(int x) {
        return same("seed(" + x + ")", log.seed(x), model.seed(x));
    }

    int keep() {
        return same("keep()", log.keep(), model.keep());
    }

    int undo() {
        return same("undo()", log.undo(), model.undo());
    }

    int check(int n) {
        return same("check(" + n + ")", log.check(n), model.check(n));
    }

    int tried(int n, int what) {
        return same("tried(" + n + ", " + what + ")", log.tried(n, what), model.tried(n, what));
    }

    int till(int n, int what) {
        return same("till(" + n + ", " + what + ")", log.till(n, what), model.till(n, what));
    }

    int nodeIs(int n, int what) {
        return same("nodeIs(" + n + ", " + what + ")", log.nodeIs(n, what),
                model.nodeIs(n, what));
    }

    int entryAt(int n, int index, int what) {
        return same("entryAt(" + n + ", " + index + ", " + what + ")",
                log.entryAt(n, index, what), model.entryAt(n, index, what));
    }

    int keyOf(int n, int key) {
        return same("keyOf(" + n + ", " + key + ")", log.keyOf(n, key), model.keyOf(n, key));
    }

    int about(int leader, int n, int what) {
        return same("about(" + leader + ", " + n + ", " + what + ")", log.about(leader, n, what),
                model.about(leader, n, what));
    }

    int message(int i, int what) {
        return same("message(" + i + ", " + what + ")", log.message(i, what),
                model.message(i, what));
    }

    int leaderNow() {
        return same("leaderNow()", log.leaderNow(), model.leaderNow());
    }

    int heldAt(int index, int what) {
        return same("heldAt(" + index + ", " + what + ")", log.heldAt(index, what),
                model.heldAt(index, what));
    }

    int readIs(int i, int what) {
        return same("readIs(" + i + ", " + what + ")", log.readIs(i, what),
                model.readIs(i, what));
    }

    int broken(int what) {
        return same("broken(" + what + ")", log.broken(what), model.broken(what));
    }

    int couldWin(int n, int what) {
        return same("couldWin(" + n + ", " + what + ")", log.couldWin(n, what),
                model.couldWin(n, what));
    }

    int majority(int n, int some) {
        return same("majority(" + n + ", " + some + ")", log.majority(n, some),
                model.majority(n, some));
    }

    int count(int what) {
        return same("count(" + what + ")", log.count(what), model.count(what));
    }

    /** Lays a text on the tape, which should be empty; as many bytes behind it as fill a feed. */
    void feedText(String text) {
        calls.add("  // " + text);
        calls.remove(calls.size() - 1);
        for (int at = 0; at < text.length(); at += 20) {
            int[] five = new int[5];
            for (int i = 0; i < 20; i++) {
                int c = at + i < text.length() ? text.charAt(at + i) : 'a';
                five[i / 4] = five[i / 4] << 8 | c;
            }
            feed(five[0], five[1], five[2], five[3], five[4]);
        }
    }

    int lawText(String text) {
        feedText(text);
        return law(text.length());
    }

    int planText(String text) {
        feedText(text);
        return plan(text.length());
    }

    /** One asking call that changes nothing (but what check() does to the tape). */
    void askSomething(Random r) {
        int n = r.nextInt(7);
        int top = Math.max(model.count(3), 1);
        switch (r.nextInt(20)) {
            case 0: case 1: case 2: nodeIs(n, r.nextInt(14)); break;
            case 3: case 4: entryAt(n, 1 + r.nextInt(Math.min(999, top + 12)), r.nextInt(4)); break;
            case 5: keyOf(n, r.nextInt(18)); break;
            case 6: case 7:
                about(r.nextInt(3) > 0 ? model.leaderNow() : n, r.nextInt(7), r.nextInt(3));
                break;
            case 8: case 9: message(r.nextInt(model.count(2) + 2), r.nextInt(6)); break;
            case 10: leaderNow(); break;
            case 11: heldAt(1 + r.nextInt(top + 2), r.nextInt(4)); break;
            case 12: readIs(r.nextInt(model.count(7) + 1), r.nextInt(4)); break;
            case 13: broken(r.nextInt(3)); break;
            case 14: couldWin(n, r.nextInt(2)); break;
            case 15: majority(n, r.nextInt(128)); break;
            case 16: tried(1 + r.nextInt(r.nextInt(5) == 0 ? 200 : 20), triedWhat(r)); break;
            case 17: till(1 + r.nextInt(r.nextInt(5) == 0 ? 200 : 20), r.nextInt(3)); break;
            default: count(r.nextInt(10)); break;
        }
    }

    static int triedWhat(Random r) {
        return r.nextBoolean() ? r.nextInt(4) : 10 * (1 + r.nextInt(3)) + r.nextInt(7);
    }

    /** A call with an argument that is at or beyond a bound. */
    void askWrong(Random r) {
        int[] edges = {-1, 0, 1, 6, 7, 8, 9, 10, 13, 14, 17, 18, 99, 100, 127, 128, 199, 200, 201,
            999, 1000, 9999, 10000, 65535, 65536, Integer.MAX_VALUE, Integer.MIN_VALUE, -2};
        int a = edges[r.nextInt(edges.length)];
        int b = r.nextBoolean() ? r.nextInt(8) : edges[r.nextInt(edges.length)];
        int c = r.nextBoolean() ? r.nextInt(4) : edges[r.nextInt(edges.length)];
        if (r.nextBoolean()) a = r.nextInt(7);
        switch (r.nextInt(26)) {
            case 0: nodeIs(a, b); break;
            case 1: entryAt(a, b, c); break;
            case 2: keyOf(a, b); break;
            case 3: about(a, b, c); break;
            case 4: message(a, b); break;
            case 5: heldAt(a, b); break;
            case 6: readIs(a, b); break;
            case 7: broken(a); break;
            case 8: couldWin(a, b); break;
            case 9: majority(a, b); break;
            case 10: tried(Math.max(-1, Math.min(a, 201)), b); break;
            case 11: till(Math.max(-1, Math.min(a, 201)), b); break;
            case 12: count(a); break;
            case 13: write(a, b, c); break;
            case 14: change(a, b); break;
            case 15: ask(a, b); break;
            case 16: crash(a < 7 ? -a : a); break;
            case 17: comeUp(a); break;
            case 18: cut(a, b, r.nextBoolean()); break;
            case 19: compact(a); break;
            case 20: ticks(a > 0 && a <= 200 ? -a : a); break;
            case 21: law(a); break;
            case 22: plan(a); break;
            case 23: check(a); break;
            case 24: found(a > 0 && a < 128 ? -a : a); break;
            default: seed(a >= 0 && a < 65536 ? -1 - a : a); break;
        }
    }
}
