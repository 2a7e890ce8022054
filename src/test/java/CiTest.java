import java.nio.file.Files;
import java.nio.file.Path;

/** .ci/run compiles the program, runs every test, and fails if one fails: on small projects. */
public final class CiTest {
    private static final String PROGRAM = "public final class TermLog {\n"
            + "    public int count(int what) {\n        return 7;\n    }\n}\n";

    private CiTest() {}

    public static void main(String[] args) throws Exception {
        String good = test("GoodTest", "new TermLog().count(0) != 7");
        String goodRuns = test("Runs", "new TermLog().count(0) != 7");
        Run all = ran(PROGRAM, good, goodRuns);
        Due.due("all is well", all.code(), 0);
        Due.due("all were run", all.out(),
                "== GoodTest\n== Runs\n2 tests ran, 0 failed\n");
        failed("a test of the project", ran(PROGRAM,
                test("GoodTest", "new TermLog().count(0) == 7"), goodRuns));
        failed("a test that throws", ran(PROGRAM,
                test("GoodTest", "1 / new TermLog().count(0) > 1 / 0"), goodRuns));
        failed("a shared test", ran(PROGRAM, good,
                test("Runs", "new TermLog().count(0) == 7")));
        failed("a shared test that can't be compiled", ran(PROGRAM, good,
                test("Runs", "new TermLog().counts(0) == 7")));
        failed("a test that can't be compiled", ran(PROGRAM,
                test("GoodTest", "new TermLog().counts(0) == 7"), goodRuns));
        failed("a program that can't be compiled",
                ran(PROGRAM.replace("return 7", "return true"), good, goodRuns));
        Due.end("CiTest");
    }

    private static void failed(String what, Run run) {
        Due.due(what + " fails it", run.code() != 0, true);
    }

    private static String test(String name, String isWrong) {
        return "public final class " + name + " {\n"
                + "    public static void main(String[] args) {\n"
                + "        if (" + isWrong + ") System.exit(1);\n    }\n}\n";
    }

    /** The script finds its project from wherever it is called. */
    private static Run ran(String program, String test, String sharedTest) throws Exception {
        Path place = Files.createTempDirectory("ci");
        Run.copy(Path.of(".ci/run"), place.resolve("main/.ci/run"));
        Run.write(place.resolve("main/src/main/java/TermLog.java"), program);
        Run.write(place.resolve("main/src/test/java/GoodTest.java"), test);
        Run.write(place.resolve("main/src/test/java/Helper.java"), "final class Helper {}\n");
        Run.write(place.resolve("shared/tests/Runs.java"), sharedTest);
        Run run = Run.sh(place, "main/.ci/run");
        Run.remove(place);
        return run;
    }
}
