import java.util.Random;

/** Drawn LAWS and PLANS, most of them right, some spoilt. */
final class Texts {
    private Texts() {}

    private static String pick(Random r, String... some) {
        return some[r.nextInt(some.length)];
    }

    static String sum(Random r, int deep) {
        StringBuilder b = new StringBuilder(factor(r, deep));
        while (r.nextInt(3) == 0) b.append(pick(r, "+", "-", "*", "/", "%")).append(factor(r, deep));
        return b.toString();
    }

    private static String factor(Random r, int deep) {
        if (deep > 0 && r.nextInt(4) == 0) return "[" + sum(r, deep - 1) + "]";
        if (r.nextInt(3) > 0) return pick(r, "f", "t", "k", "n", "q", "s", "w");
        return r.nextInt(8) == 0 ? "" + r.nextInt(100000) : "" + r.nextInt(10);
    }

    static String test(Random r, int deep) {
        int kind = r.nextInt(6);
        if (deep > 0 && kind == 0) return "!" + test(r, deep - 1);
        if (deep > 0 && kind == 1) return "(" + whether(r, deep - 1) + ")";
        return sum(r, deep) + pick(r, "<", ">", "=") + sum(r, deep);
    }

    static String whether(Random r, int deep) {
        StringBuilder b = new StringBuilder(test(r, deep));
        while (r.nextInt(4) == 0) b.append(pick(r, "|", "&")).append(test(r, deep));
        return b.toString();
    }

    static String rule(Random r, int deep) {
        String letter = pick(r, "d", "d", "l", "l", "e", "e", "x");
        String first = letter.equals("x") ? "" : sum(r, deep);
        return letter + first + "(" + whether(r, deep) + ")";
    }

    /** A LAW under which MESSAGES still come through now and then. */
    static String mildLaw(Random r) {
        String[] some = {
            "d" + r.nextInt(5) + "(f=f)",
            "dw%" + (1 + r.nextInt(5)) + "(k=2)",
            "dw(k=" + r.nextInt(6) + ")",
            "l" + r.nextInt(4) + "(f=f)",
            "l" + (2 + r.nextInt(6)) + "(t=" + r.nextInt(7) + ")",
            "x(f=" + r.nextInt(7) + "&k=" + r.nextInt(6) + ")",
            "x(t=" + r.nextInt(7) + "&s<" + r.nextInt(60) + ")",
            "x(q>" + (10 + r.nextInt(150)) + ")",
            "e" + (4 + r.nextInt(20)) + "+f*" + r.nextInt(4) + "(f=f)",
            "e" + (4 + r.nextInt(8)) + "(f=" + r.nextInt(7) + ")",
            "d[t*3+f]%4(w>" + r.nextInt(9) + ")",
            "l9/[f-" + r.nextInt(7) + "](k=3)",
            rule(r, 2),
        };
        StringBuilder b = new StringBuilder(some[r.nextInt(some.length)]);
        int more = r.nextInt(4);
        for (int i = 0; i < more; i++) b.append(';').append(some[r.nextInt(some.length)]);
        return b.length() <= 240 ? b.toString() : b.substring(0, 240);
    }

    static String drawnLaw(Random r) {
        StringBuilder b = new StringBuilder(rule(r, 4));
        while (r.nextInt(5) > 0 && b.length() < 200) b.append(';').append(rule(r, r.nextInt(5)));
        String text = b.length() <= 240 ? b.toString() : b.substring(0, 240);
        return r.nextInt(3) == 0 ? spoilt(r, text, "dlex()[]!&|<>=+-*/%ftknqsw0123456789;") : text;
    }

    static String spoilt(Random r, String text, String signs) {
        StringBuilder b = new StringBuilder(text);
        int at = r.nextInt(b.length());
        char sign = r.nextInt(8) == 0 ? (char) r.nextInt(256) : signs.charAt(r.nextInt(signs.length()));
        switch (r.nextInt(4)) {
            case 0: b.setCharAt(at, sign); break;
            case 1: b.insert(at, sign); break;
            case 2: if (b.length() > 1) b.deleteCharAt(at); break;
            default: b.setLength(at + 1); break;
        }
        return b.length() > 240 ? b.substring(0, 240) : b.toString();
    }

    private static String act(Random r, int leader) {
        int n = r.nextInt(3) > 0 && leader >= 0 ? leader : r.nextInt(7);
        int other = (n + 1 + r.nextInt(6)) % 7;
        switch (r.nextInt(12)) {
            case 0: return "k" + r.nextInt(7);
            case 1: return "u" + r.nextInt(7);
            case 2: return "c" + r.nextInt(7);
            case 3: case 4: case 5: return "w" + n + r.nextInt(8) + r.nextInt(10);
            case 6: return "r" + n + r.nextInt(8);
            case 7: return "x" + n + other;
            case 8: return "j" + n + other;
            default: return ".";
        }
    }

    private static String acts(Random r, int leader, int deep) {
        StringBuilder b = new StringBuilder();
        do {
            if (r.nextInt(4) == 0) b.append(2 + r.nextInt(8));
            if (deep > 0 && r.nextInt(4) == 0) {
                b.append('(').append(acts(r, leader, deep - 1)).append(')');
            } else {
                b.append(act(r, leader));
            }
        } while (r.nextInt(5) > 0);
        return b.toString();
    }

    static String plan(Random r, int leader) {
        String text = acts(r, leader, r.nextInt(10) == 0 ? 3 : 2);
        if (r.nextInt(6) == 0) text = spoilt(r, text, "()0123456789.kucwrxja");
        return text.length() <= 120 ? text : text.substring(0, 120);
    }
}
