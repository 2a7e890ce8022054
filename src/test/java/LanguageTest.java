import com.sun.source.tree.AssertTree;
import com.sun.source.tree.BinaryTree;
import com.sun.source.tree.ClassTree;
import com.sun.source.tree.CompilationUnitTree;
import com.sun.source.tree.ImportTree;
import com.sun.source.tree.LambdaExpressionTree;
import com.sun.source.tree.MemberReferenceTree;
import com.sun.source.tree.MethodInvocationTree;
import com.sun.source.tree.MethodTree;
import com.sun.source.tree.NewArrayTree;
import com.sun.source.tree.NewClassTree;
import com.sun.source.tree.SynchronizedTree;
import com.sun.source.tree.ThrowTree;
import com.sun.source.tree.Tree;
import com.sun.source.tree.TryTree;
import com.sun.source.tree.VariableTree;
import com.sun.source.util.JavacTask;
import com.sun.source.util.TreePath;
import com.sun.source.util.TreePathScanner;
import com.sun.source.util.Trees;
import java.io.File;
import java.lang.reflect.Constructor;
import java.lang.reflect.Field;
import java.lang.reflect.Method;
import java.lang.reflect.Modifier;
import java.util.ArrayList;
import java.util.HashMap;
import java.util.HashSet;
import java.util.List;
import java.util.Map;
import java.util.Set;
import java.util.TreeSet;
import javax.lang.model.element.Element;
import javax.lang.model.element.ElementKind;
import javax.tools.JavaCompiler;
import javax.tools.StandardJavaFileManager;
import javax.tools.ToolProvider;

/** What can be counted of ../shared/LANGUAGE.md; run where src/main/java is. */
public final class LanguageTest {
    private static final Set<String> PUBLIC_NAMES = new HashSet<>(List.of("found", "crash",
            "comeUp", "cut", "compact", "write", "change", "ask", "feed", "law", "plan", "ticks",
            "tried", "nodeIs", "entryAt", "keyOf", "about", "message", "leaderNow", "heldAt",
            "readIs", "broken", "couldWin", "majority", "till", "seed", "keep", "undo", "check",
            "count"));
    private static final Set<String> LIBRARY = Set.of("bitCount", "min", "max", "fill",
            "arraycopy");

    private LanguageTest() {}

    public static void main(String[] args) throws Exception {
        face();
        source();
        Due.end("LanguageTest");
    }

    private static void face() {
        Set<String> seen = new TreeSet<>();
        for (Method m : TermLog.class.getDeclaredMethods()) {
            if (Modifier.isPrivate(m.getModifiers())) {
                Due.due("private " + m.getName(), PUBLIC_NAMES.contains(m.getName()), false);
            } else {
                Due.due("public " + m.getName(), Modifier.isPublic(m.getModifiers()), true);
                Due.due("no static " + m.getName(), Modifier.isStatic(m.getModifiers()), false);
                seen.add(m.getName());
            }
        }
        Due.due("the methods", seen.toString(), new TreeSet<>(PUBLIC_NAMES).toString());
        for (Field f : TermLog.class.getDeclaredFields()) {
            boolean isPrivate = Modifier.isPrivate(f.getModifiers());
            Due.due("field " + f.getName(), isPrivate, !f.getName().equals("NONE"));
        }
        Constructor<?>[] makers = TermLog.class.getDeclaredConstructors();
        Due.due("constructors", makers.length, 1);
        Due.due("its parameters", makers[0].getParameterCount(), 0);
        Due.due("final", Modifier.isFinal(TermLog.class.getModifiers()), true);
        Class<?>[] inner = TermLog.class.getDeclaredClasses();
        Due.due("some twelve classes", inner.length < 12, true);
        for (Class<?> c : inner) {
            Due.due("static " + c.getName(), Modifier.isStatic(c.getModifiers()), true);
            Due.due("no public " + c.getName(), Modifier.isPublic(c.getModifiers()), false);
            int fields = 0;
            for (Field f : c.getDeclaredFields()) {
                if (!Modifier.isStatic(f.getModifiers())) fields++;
            }
            Due.due("some twenty fields of " + c.getName(), fields <= 20, true);
            for (Method m : c.getDeclaredMethods()) {
                Due.due(c + " " + m.getName(), PUBLIC_NAMES.contains(m.getName()), false);
            }
        }
    }

    private static void source() throws Exception {
        JavaCompiler javac = ToolProvider.getSystemJavaCompiler();
        try (StandardJavaFileManager files = javac.getStandardFileManager(null, null, null)) {
            JavacTask task = (JavacTask) javac.getTask(null, files, null, List.of("-proc:none"),
                    null, files.getJavaFileObjects(new File("src/main/java/TermLog.java")));
            CompilationUnitTree unit = task.parse().iterator().next();
            task.analyze();
            Looker looker = new Looker(Trees.instance(task), unit);
            looker.scan(unit, null);
            for (String method : looker.calls.keySet()) {
                List<String> chain = looker.deepest(method, new HashSet<>());
                Due.due("at most eight deep: " + chain, chain.size() <= 8, true);
            }
        }
    }

    private static final class Looker extends TreePathScanner<Void, Void> {
        final Map<String, Set<String>> calls = new HashMap<>();
        private final Trees trees;
        private final CompilationUnitTree unit;
        private String method;
        private boolean isMaking = true;

        Looker(Trees trees, CompilationUnitTree unit) {
            this.trees = trees;
            this.unit = unit;
        }

        private static String nameOf(Element e) {
            return e.getEnclosingElement().getSimpleName() + "." + e;
        }

        /** The longest chain from a method on; those that call one another count as one. */
        List<String> deepest(String from, Set<String> open) {
            List<String> best = new ArrayList<>();
            Set<String> ring = ring(from);
            if (!open.addAll(ring)) return best;
            for (String one : ring) {
                for (String to : calls.getOrDefault(one, Set.of())) {
                    if (ring.contains(to)) continue;
                    List<String> chain = deepest(to, new HashSet<>(open));
                    if (chain.size() > best.size()) best = chain;
                }
            }
            List<String> all = new ArrayList<>(List.of(from));
            all.addAll(best);
            return all;
        }

        private Set<String> ring(String from) {
            Set<String> ring = new HashSet<>(Set.of(from));
            for (String to : reached(from)) {
                if (reached(to).contains(from)) ring.add(to);
            }
            return ring;
        }

        private final Map<String, Set<String>> reach = new HashMap<>();

        private Set<String> reached(String from) {
            Set<String> known = reach.get(from);
            if (known != null) return known;
            Set<String> all = new HashSet<>();
            List<String> todo = new ArrayList<>(calls.getOrDefault(from, Set.of()));
            while (!todo.isEmpty()) {
                String next = todo.remove(todo.size() - 1);
                if (all.add(next)) todo.addAll(calls.getOrDefault(next, Set.of()));
            }
            reach.put(from, all);
            return all;
        }

        private void never(String what, Tree tree) {
            long line = unit.getLineMap().getLineNumber(
                    trees.getSourcePositions().getStartPosition(unit, tree));
            Due.due(what + " at line " + line, 1, 0);
        }

        @Override
        public Void visitMethod(MethodTree m, Void v) {
            String before = method;
            method = nameOf(trees.getElement(getCurrentPath()));
            calls.putIfAbsent(method, new HashSet<>());
            isMaking = m.getReturnType() == null;
            long from = unit.getLineMap().getLineNumber(
                    trees.getSourcePositions().getStartPosition(unit, m));
            long to = unit.getLineMap().getLineNumber(
                    trees.getSourcePositions().getEndPosition(unit, m));
            Due.due("sixty lines: " + method, to - from < 60, true);
            Due.due("seven parameters: " + method, m.getParameters().size() <= 7, true);
            super.visitMethod(m, v);
            method = before;
            isMaking = true;
            return null;
        }

        @Override
        public Void visitMethodInvocation(MethodInvocationTree call, Void v) {
            Element e = trees.getElement(new TreePath(getCurrentPath(), call.getMethodSelect()));
            if (e.getKind() == ElementKind.METHOD) {
                String owner = e.getEnclosingElement().toString();
                if (!owner.startsWith("TermLog")) {
                    Due.due("of the library: " + e, LIBRARY.contains(e.getSimpleName() + ""), true);
                }
                if (method != null) calls.get(method).add(nameOf(e));
            }
            return super.visitMethodInvocation(call, v);
        }

        @Override
        public Void visitNewClass(NewClassTree t, Void v) {
            if (!isMaking) never("an object made by a call", t);
            if (t.getClassBody() != null) never("an anonymous class", t);
            return super.visitNewClass(t, v);
        }

        @Override
        public Void visitNewArray(NewArrayTree t, Void v) {
            if (!isMaking) never("an array made by a call", t);
            return super.visitNewArray(t, v);
        }

        @Override
        public Void visitClass(ClassTree t, Void v) {
            for (Tree member : t.getMembers()) {
                if (!(member instanceof VariableTree)) continue;
                Set<javax.lang.model.element.Modifier> its =
                        ((VariableTree) member).getModifiers().getFlags();
                boolean isStatic = its.contains(javax.lang.model.element.Modifier.STATIC);
                boolean isFinal = its.contains(javax.lang.model.element.Modifier.FINAL);
                if (isStatic && !isFinal) never("a static field that is not final", member);
            }
            return super.visitClass(t, v);
        }

        @Override
        public Void visitImport(ImportTree t, Void v) {
            Due.due("import", t.getQualifiedIdentifier().toString(), "java.util.Arrays");
            return super.visitImport(t, v);
        }

        @Override
        public Void visitBinary(BinaryTree t, Void v) {
            String type = String.valueOf(trees.getTypeMirror(getCurrentPath()));
            if (type.equals("java.lang.String")) never("a text joined by +", t);
            return super.visitBinary(t, v);
        }

        @Override
        public Void visitThrow(ThrowTree t, Void v) {
            never("throw", t);
            return super.visitThrow(t, v);
        }

        @Override
        public Void visitTry(TryTree t, Void v) {
            never("try", t);
            return super.visitTry(t, v);
        }

        @Override
        public Void visitLambdaExpression(LambdaExpressionTree t, Void v) {
            never("a lambda", t);
            return super.visitLambdaExpression(t, v);
        }

        @Override
        public Void visitMemberReference(MemberReferenceTree t, Void v) {
            never("a method reference", t);
            return super.visitMemberReference(t, v);
        }

        @Override
        public Void visitSynchronized(SynchronizedTree t, Void v) {
            never("synchronized", t);
            return super.visitSynchronized(t, v);
        }

        @Override
        public Void visitAssert(AssertTree t, Void v) {
            never("assert", t);
            return super.visitAssert(t, v);
        }
    }
}
