import com.sun.source.tree.*;
import com.sun.source.util.JavacTask;
import com.sun.source.util.SourcePositions;
import com.sun.source.util.TreePathScanner;
import com.sun.source.util.Trees;
import java.nio.file.Files;
import java.nio.file.Path;
import java.util.*;
import javax.lang.model.element.Modifier;
import javax.lang.model.type.TypeKind;
import javax.lang.model.type.TypeMirror;
import javax.tools.JavaCompiler;
import javax.tools.ToolProvider;

/** What of ../shared/LANGUAGE.md can be seen from the source alone. */
public final class LanguageTest {
    private static final Path SOURCE = Path.of("src/main/java/FedClocks.java");
    private static final Set<String> LIBRARY = Set.of(
        "System.arraycopy", "Arrays.copyOf", "Arrays.copyOfRange", "Arrays.fill", "Math.max", "Math.min", "Math.abs", "Math.floorDiv",
        "Math.floorMod", "Integer.compare", "Integer.bitCount", "Long.compare");
    private static int wrong = 0;

    private static void fault(String what) {
        wrong++;
        System.out.println(what);
    }

    public static void main(String[] args) throws Exception {
        String text = Files.readString(SOURCE);
        for (char c : text.toCharArray()) if (c > 126 || c < 32 && c != '\n') fault("a sign " + (int) c);
        JavaCompiler compiler = ToolProvider.getSystemJavaCompiler();
        JavacTask task = (JavacTask) compiler.getTask(null, null, null, null, null,
            compiler.getStandardFileManager(null, null, null).getJavaFileObjects(SOURCE));
        CompilationUnitTree unit = task.parse().iterator().next();
        task.analyze();
        Trees trees = Trees.instance(task);
        Check check = new Check(unit, trees);
        check.scan(unit, null);
        if (check.classes > 12) fault(check.classes + " classes");
        check.depths();
        System.out.println(wrong == 0 ? "the source keeps to the rules that can be seen" : wrong + " faults");
        if (wrong > 0) System.exit(1);
    }

    private static final class Check extends TreePathScanner<Void, Void> {
        final CompilationUnitTree unit;
        final Trees trees;
        final SourcePositions at;
        int classes = 0;
        String method = "";
        final Set<String> face = new HashSet<>();
        final Map<String, Set<String>> calls = new TreeMap<>();

        Check(CompilationUnitTree unit, Trees trees) {
            this.unit = unit;
            this.trees = trees;
            this.at = trees.getSourcePositions();
        }

        private long line(Tree t) {
            return unit.getLineMap().getLineNumber(at.getStartPosition(unit, t));
        }

        private long lastLine(Tree t) {
            return unit.getLineMap().getLineNumber(at.getEndPosition(unit, t));
        }

        @Override public Void visitClass(ClassTree c, Void v) {
            classes++;
            boolean outer = c.getSimpleName().contentEquals("FedClocks");
            int fields = 0;
            for (Tree m : c.getMembers()) {
                if (m instanceof MethodTree t && outer && t.getModifiers().getFlags().contains(Modifier.PUBLIC) && t.getReturnType() != null) face.add(t.getName().toString());
                if (m instanceof VariableTree t && !t.getModifiers().getFlags().contains(Modifier.STATIC)) fields++;
                if (m instanceof VariableTree t && t.getModifiers().getFlags().contains(Modifier.STATIC)
                        && !t.getModifiers().getFlags().contains(Modifier.FINAL)) fault(line(m) + ": a static field that is not final");
                if (m instanceof BlockTree) fault(line(m) + ": a block of the class");
                if (outer && m instanceof VariableTree t && !t.getModifiers().getFlags().contains(Modifier.PRIVATE)
                        && !Set.of("NONE", "HIDDEN").contains(t.getName().toString())) fault(line(m) + ": not private");
                if (m instanceof ClassTree t && !t.getModifiers().getFlags().contains(Modifier.STATIC)) fault(line(m) + ": not static");
            }
            if (fields > 20) fault(c.getSimpleName() + " has " + fields + " fields");
            return super.visitClass(c, v);
        }

        @Override public Void visitMethod(MethodTree m, Void v) {
            ClassTree c = (ClassTree) getCurrentPath().getParentPath().getLeaf();
            String old = method;
            method = c.getSimpleName() + "." + m.getName() + m.getParameters().size();
            calls.putIfAbsent(method, new TreeSet<>());
            if (m.getParameters().size() > 7) fault(method + ": too many parameters");
            long lines = lastLine(m) - line(m) + 1;
            if (lines > 60) fault(method + ": " + lines + " lines");
            Set<Modifier> flags = m.getModifiers().getFlags();
            if (!c.getSimpleName().contentEquals("FedClocks") && face.contains(m.getName().toString())) fault(method + ": a name of the face");
            if (flags.contains(Modifier.PRIVATE) && face.contains(m.getName().toString())) fault(method + ": private, a name of the face");
            if (flags.contains(Modifier.SYNCHRONIZED)) fault(method + ": synchronized");
            super.visitMethod(m, v);
            method = old;
            return null;
        }

        @Override public Void visitMethodInvocation(MethodInvocationTree m, Void v) {
            javax.lang.model.element.Element e = trees.getElement(getCurrentPath());
            if (e != null) {
                String owner = e.getEnclosingElement().getSimpleName().toString();
                String qualified = e.getEnclosingElement().toString();
                String name = owner + "." + e.getSimpleName();
                if (qualified.startsWith("FedClocks")) calls.get(method).add(name + m.getArguments().size());
                else if (!qualified.equals("java.lang.String") && !qualified.equals("java.lang.Object") && !LIBRARY.contains(name)) fault(line(m) + ": " + name);
                if (name.startsWith("Arrays.")) {
                    TypeMirror t = trees.getTypeMirror(new com.sun.source.util.TreePath(getCurrentPath(), m.getArguments().get(0)));
                    if (!t.toString().equals("int[]")) fault(line(m) + ": " + name + " over " + t);
                }
            }
            return super.visitMethodInvocation(m, v);
        }

        @Override public Void visitBinary(BinaryTree b, Void v) {
            if (b.getKind() == Tree.Kind.PLUS) {
                TypeMirror t = trees.getTypeMirror(getCurrentPath());
                if (t != null && t.getKind() == TypeKind.DECLARED) fault(line(b) + ": + of texts");
            }
            return super.visitBinary(b, v);
        }

        @Override public Void visitLambdaExpression(LambdaExpressionTree t, Void v) {
            fault(line(t) + ": a lambda");
            return null;
        }

        @Override public Void visitMemberReference(MemberReferenceTree t, Void v) {
            fault(line(t) + ": a method reference");
            return null;
        }

        @Override public Void visitAssert(AssertTree t, Void v) {
            fault(line(t) + ": assert");
            return null;
        }

        @Override public Void visitTry(TryTree t, Void v) {
            fault(line(t) + ": try");
            return super.visitTry(t, v);
        }

        @Override public Void visitSynchronized(SynchronizedTree t, Void v) {
            fault(line(t) + ": synchronized");
            return null;
        }

        /** How many methods stand open at once at most, without those that call one another; the eighth may be the library's. */
        void depths() {
            for (String m : calls.keySet()) {
                if (!m.startsWith("FedClocks.") || !face.contains(m.substring(10).replaceAll("[0-9]+$", ""))) continue;
                List<String> way = deepest(m, new ArrayList<>());
                if (way.size() > 7 && way.stream().noneMatch(s -> s.startsWith("TasteReader."))) fault(m + " goes deep: " + way);
            }
        }

        private List<String> deepest(String m, List<String> open) {
            if (open.contains(m)) return List.copyOf(open);
            List<String> now = new ArrayList<>(open);
            now.add(m);
            List<String> best = now;
            for (String c : calls.getOrDefault(m, Set.of())) {
                List<String> one = deepest(c, now);
                if (one.size() > best.size()) best = one;
            }
            return best;
        }
    }
}
