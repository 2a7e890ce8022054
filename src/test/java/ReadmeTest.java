import java.io.IOException;
import java.lang.reflect.Array;
import java.lang.reflect.Field;
import java.lang.reflect.Method;
import java.lang.reflect.Modifier;
import java.nio.file.Files;
import java.nio.file.Path;
import java.util.ArrayDeque;
import java.util.ArrayList;
import java.util.Deque;
import java.util.IdentityHashMap;
import java.util.List;
import java.util.Map;
import java.util.regex.Matcher;
import java.util.regex.Pattern;

/** README.md: what it shows is run as it stands there, what it says is held. */
public final class ReadmeTest {
    private static final Path README = Path.of("README.md");
    private static final Path PROGRAM = Path.of("src/main/java/TermLog.java");
    private static final Pattern BLOCK = Pattern.compile("(?ms)^```(\\w+)\n(.*?)^```$");
    private static final Pattern CLASS = Pattern.compile("public final class (\\w+)");
    private static final Pattern SIZE = Pattern.compile(
            "\\(([\\d,]+) objects\\s+and\\s+arrays,\\s+([\\d,]+) fields\\s+and\\s+elements\\)");

    /** A part between two fences: "java", "sh" or "text", and what stands in it. */
    private record Block(String kind, String text) {}

    private ReadmeTest() {}

    public static void main(String[] args) throws Exception {
        String page = Files.readString(README);
        List<Block> blocks = blocks(page);
        programs(blocks);
        commands(blocks);
        whatIsNamed(page);
        answers(page);
        size(page);
        Due.end("ReadmeTest");
    }

    private static List<Block> blocks(String page) {
        List<Block> blocks = new ArrayList<>();
        Matcher m = BLOCK.matcher(page);
        while (m.find()) blocks.add(new Block(m.group(1), m.group(2)));
        return blocks;
    }

    private static List<String> commandsIn(List<Block> blocks) {
        return blocks.stream().filter(b -> b.kind().equals("sh")).map(Block::text).toList();
    }

    /** Each program prints what the next block says, by the commands that are told of the first. */
    private static void programs(List<Block> blocks) throws Exception {
        String commands = commandsIn(blocks).get(0);
        int shown = 0;
        String first = null;
        for (int i = 0; i < blocks.size(); i++) {
            if (!blocks.get(i).kind().equals("java")) continue;
            String text = blocks.get(i).text();
            Matcher m = CLASS.matcher(text);
            Due.due("the program " + i + " has a class", m.find(), true);
            String name = m.group(1);
            if (first == null) first = name;
            Path place = Files.createTempDirectory("readme");
            Run.copy(PROGRAM, place.resolve(PROGRAM));
            Run.write(place.resolve(name + ".java"), text);
            Run run = Run.sh(place, commands.replace(first, name));
            Run.remove(place);
            Due.due(name, run.out(), printedBehind(blocks, i));
            Due.due(name + " ends " + run.err(), run.code(), 0);
            shown++;
        }
        Due.due("programs shown", shown, 4);
    }

    private static String printedBehind(List<Block> blocks, int at) {
        for (int i = at + 1; i < blocks.size(); i++) {
            if (blocks.get(i).kind().equals("java")) break;
            if (blocks.get(i).kind().equals("text")) return blocks.get(i).text();
        }
        return "(nothing is said)";
    }

    /** .ci/run is what runs this test; CiTest tells what it does. */
    private static void commands(List<Block> blocks) throws Exception {
        List<String> commands = commandsIn(blocks);
        Due.due("commands shown", commands.size(), 3);
        Due.due("all tests", commands.get(1), ".ci/run\n");
        Due.due("can be run", Files.isExecutable(Path.of(".ci/run")), true);
        Path place = Files.createTempDirectory("readme");
        for (Path p : Run.under(Path.of("src"))) {
            if (Files.isRegularFile(p)) Run.copy(p, place.resolve("main").resolve(p));
        }
        Files.createSymbolicLink(place.resolve("shared"), Path.of("../shared").toRealPath());
        Run run = Run.sh(place.resolve("main"), commands.get(2));
        Run.remove(place);
        Due.due("tests by hand:\n" + run.out() + run.err(), run.code(), 0);
        for (String line : List.of("PlanTest: ", "ModelTest: 100 runs are alike",
                "all answers are as due")) {
            Due.due("tests by hand tell " + line, run.out().contains(line), true);
        }
    }

    /** All calls and all tests stand there, and no test that there is not. */
    private static void whatIsNamed(String page) throws IOException {
        for (Method m : TermLog.class.getDeclaredMethods()) {
            if (!Modifier.isPublic(m.getModifiers())) continue;
            String name = "`" + m.getName() + "`";
            Due.due(name + " stands there", page.contains(name), true);
        }
        for (Path p : Run.under(Path.of("src/test/java"))) {
            String file = p.getFileName().toString();
            if (!file.endsWith("Test.java")) continue;
            String name = "`" + file.replace(".java", "") + "`";
            Due.due(name + " stands there", page.contains(name), true);
        }
        Matcher m = Pattern.compile("`(\\w+Test)`").matcher(page);
        while (m.find()) {
            boolean is = Files.exists(Path.of("src/test/java", m.group(1) + ".java"));
            Due.due("there is " + m.group(1), is, true);
        }
    }

    /** What is said of answers, outside of the programs. */
    private static void answers(String page) {
        says(page, "(to crash a NODE that is DOWN)");
        TermLog x = new TermLog();
        Due.due("it crashes", x.crash(3), true);
        Due.due("it crashes again", x.crash(3), false);
        says(page, "Number 5 at place 12 is -5012; places count from 0.");
        Due.due("a third ( at 12", Due.plan(x, "..........(((."), -5012);
        says(page, "empty the tape that they have read");
        Due.due("the tape", x.count(5), 0);
        says(page, "`feed` lays twenty bytes on it");
        Due.due("fed", x.feed(0, 0, 0, 0, 0), 20);
        says(page, "`check` alone answers NONE if all is right.");
        Due.due("checked", x.check(8), TermLog.NONE);
        says(page, "A set of NODES is told by bits: 28 is 2, 3 and 4.");
        x.found(28);
        int some = 0;
        for (int n = 0; n < 7; n++) some |= x.couldWin(n, 0) == 1 ? 1 << n : 0;
        Due.due("members", some, 1 << 2 | 1 << 3 | 1 << 4);
    }

    private static void says(String page, String words) {
        Due.due("README.md says: " + words, page.replaceAll("\\s+", " ").contains(words), true);
    }

    /** "It makes all its rows when it is made". */
    private static void size(String page) throws IllegalAccessException {
        Matcher m = SIZE.matcher(page);
        Due.due("README.md tells the size", m.find(), true);
        long[] size = sizeOf(new TermLog());
        Due.due("objects and arrays", size[0], Long.parseLong(m.group(1).replace(",", "")));
        Due.due("fields and elements", size[1], Long.parseLong(m.group(2).replace(",", "")));
        TermLog used = Due.settled(127);
        used.keep();
        used.tried(200, 0);
        Due.plan(used, "9(w012..)c0r00k1");
        used.undo();
        Due.due("objects and arrays when used", sizeOf(used)[0], size[0]);
    }

    private static long[] sizeOf(Object all) throws IllegalAccessException {
        Map<Object, Boolean> seen = new IdentityHashMap<>();
        Deque<Object> todo = new ArrayDeque<>(List.of(all));
        long fields = 0;
        while (!todo.isEmpty()) {
            Object one = todo.pop();
            if (seen.put(one, true) != null) continue;
            boolean isRow = one.getClass().isArray();
            fields += isRow ? Array.getLength(one) : fieldsOf(one).size();
            if (isRow && one.getClass().getComponentType().isPrimitive()) continue;
            if (isRow) todo.addAll(List.of((Object[]) one));
            else pushFields(one, todo);
        }
        return new long[] {seen.size(), fields};
    }

    private static List<Field> fieldsOf(Object one) {
        List<Field> fields = new ArrayList<>();
        for (Field f : one.getClass().getDeclaredFields()) {
            if (!Modifier.isStatic(f.getModifiers())) fields.add(f);
        }
        return fields;
    }

    private static void pushFields(Object one, Deque<Object> todo) throws IllegalAccessException {
        for (Field f : fieldsOf(one)) {
            if (f.getType().isPrimitive()) continue;
            f.setAccessible(true);
            if (f.get(one) != null) todo.push(f.get(one));
        }
    }
}
