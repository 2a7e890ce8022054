import java.util.Random;

/** Drawn runs of up to 512 calls, each answer held against the Model's. */
public final class ModelTest {
    private ModelTest() {}

    public static void main(String[] args) {
        int runs = args.length > 0 ? Integer.parseInt(args[0]) : 700;
        int first = args.length > 1 ? Integer.parseInt(args[1]) : 0;
        int wrong = 0;
        for (int run = first; run < first + runs && wrong < 3; run++) {
            Both both = new Both();
            Random r = new Random(run);
            switch (run % 10) {
                case 7: lawRun(both, r); break;
                case 8: planRun(both, r); break;
                case 9: longRun(both, r); break;
                default: mixedRun(both, r); break;
            }
            if (both.unlike) {
                wrong++;
                System.out.println("run " + run + ":");
                both.calls.forEach(call -> System.out.println("  " + call));
            }
        }
        System.out.println(wrong == 0 ? "ModelTest: " + runs + " runs are alike"
                : "ModelTest: " + wrong + " runs are not alike");
        if (wrong != 0) System.exit(1);
    }

    /** Elections, writes, changes, crashes, cuts and reads under a mild LAW. */
    private static void mixedRun(Both both, Random r) {
        if (r.nextBoolean()) both.seed(r.nextInt(65536));
        if (r.nextInt(4) > 0) both.found(1 + r.nextInt(127));
        if (r.nextInt(3) == 0) both.lawText(Texts.mildLaw(r));
        int calm = r.nextInt(3);
        both.ticks(10 + r.nextInt(30));
        while (!both.isOver()) {
            step(both, r, calm);
            if (r.nextInt(3) == 0) both.askSomething(r);
            if (r.nextInt(25) == 0) both.askWrong(r);
        }
    }

    private static void step(Both both, Random r, int calm) {
        int leader = both.model.leaderNow();
        int n = leader >= 0 && r.nextInt(8) > 0 ? leader : r.nextInt(7);
        int any = r.nextInt(7);
        switch (r.nextInt(22)) {
            case 0: case 1: case 2: case 3: both.ticks(1 + r.nextInt(4)); break;
            case 4: both.ticks(1 + r.nextInt(40)); break;
            case 5: case 6: case 7: case 8: both.write(n, r.nextInt(8), r.nextInt(100)); break;
            case 9: both.change(n, 1 + r.nextInt(127)); break;
            case 10: both.ask(n, r.nextInt(8)); break;
            case 11: if (r.nextInt(3) >= calm) both.crash(r.nextBoolean() ? n : any); break;
            case 12: case 13: comeUpSome(both, r); break;
            case 14: if (r.nextInt(3) >= calm) both.cut(any, (any + 1 + r.nextInt(6)) % 7, true); break;
            case 15: joinSome(both, r); break;
            case 16: both.compact(r.nextBoolean() ? n : any); break;
            case 17: both.planText(Texts.plan(r, leader)); break;
            case 18: if (r.nextInt(3) == 0) both.lawText(Texts.mildLaw(r)); break;
            case 19: if (r.nextInt(3) == 0) both.keep(); break;
            case 20: if (r.nextInt(8) == 0) both.undo(); break;
            default: rareStep(both, r); break;
        }
    }

    private static void rareStep(Both both, Random r) {
        switch (r.nextInt(5)) {
            case 0: both.seed(r.nextInt(65536)); break;
            case 1: if (r.nextInt(6) == 0) both.found(1 + r.nextInt(127)); break;
            case 2:
                both.feed(r.nextInt(8) << 24, 0, 0, 0, 0);
                both.check(r.nextInt(9));
                break;
            case 3: isolate(both, r.nextInt(7)); break;
            default: both.planText("9(9(w" + Math.max(0, both.model.leaderNow()) + "01))"); break;
        }
    }

    private static void isolate(Both both, int n) {
        for (int other = 0; other < 7 && !both.isOver(); other++) both.cut(n, other, true);
    }

    private static void comeUpSome(Both both, Random r) {
        for (int n = 0; n < 7 && !both.isOver(); n++) {
            if (both.model.nodeIs(n, 0) == 0 && r.nextInt(3) > 0) both.comeUp(n);
        }
    }

    private static void joinSome(Both both, Random r) {
        for (int one = 0; one < 7; one++) {
            for (int other = 0; other < one; other++) {
                boolean is = both.model.s.cut[one][other];
                if (is && !both.isOver() && r.nextInt(3) > 0) both.cut(one, other, false);
            }
        }
    }

    /** Drawn LAWS, right and spoilt, asked of TICKS. */
    private static void lawRun(Both both, Random r) {
        while (!both.isOver()) {
            both.lawText(Texts.drawnLaw(r));
            if (both.isOver()) return;
            both.count(4);
            if (r.nextInt(4) == 0) both.found(1 + r.nextInt(127));
            both.ticks(1 + r.nextInt(40));
            both.count(6);
            both.askSomething(r);
            if (r.nextInt(4) == 0) both.askWrong(r);
        }
    }

    private static void planRun(Both both, Random r) {
        both.found(1 + r.nextInt(127));
        both.ticks(30);
        while (!both.isOver()) {
            both.planText(Texts.plan(r, both.model.leaderNow()));
            both.askSomething(r);
            if (r.nextInt(6) == 0) comeUpSome(both, r);
            if (r.nextInt(6) == 0) joinSome(both, r);
            if (r.nextInt(3) == 0) both.ticks(1 + r.nextInt(20));
        }
    }

    /** Far: many TICKS, TERMS and INDEXES. */
    private static void longRun(Both both, Random r) {
        both.found(r.nextBoolean() ? 1 : 1 + r.nextInt(127));
        if (r.nextBoolean()) both.lawText("e4(f=f)" + (r.nextBoolean() ? ";x(w<9)" : ""));
        boolean writes = r.nextBoolean();
        while (!both.isOver()) {
            int leader = both.model.leaderNow();
            if (leader >= 0 && writes) {
                String w = "w" + leader + r.nextInt(8) + r.nextInt(10);
                both.planText("4(9(3" + w + ".)c" + leader + ")");
            } else {
                both.ticks(1 + r.nextInt(200));
            }
            both.askSomething(r);
            if (r.nextInt(10) == 0) both.askWrong(r);
            if (r.nextInt(10) == 0) both.change(leader, 1 + r.nextInt(127));
        }
    }
}
