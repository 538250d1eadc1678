import com.sun.source.tree.BinaryTree;
import com.sun.source.tree.ClassTree;
import com.sun.source.tree.CompilationUnitTree;
import com.sun.source.tree.LineMap;
import com.sun.source.tree.MethodInvocationTree;
import com.sun.source.tree.MethodTree;
import com.sun.source.tree.NewArrayTree;
import com.sun.source.tree.NewClassTree;
import com.sun.source.tree.Tree;
import com.sun.source.tree.VariableTree;
import com.sun.source.util.JavacTask;
import com.sun.source.util.SourcePositions;
import com.sun.source.util.TreePath;
import com.sun.source.util.TreePathScanner;
import com.sun.source.util.Trees;
import java.io.File;
import java.lang.reflect.Constructor;
import java.lang.reflect.Field;
import java.lang.reflect.Method;
import java.lang.reflect.Modifier;
import java.nio.file.Files;
import java.nio.file.Path;
import java.util.ArrayList;
import java.util.EnumSet;
import java.util.HashMap;
import java.util.HashSet;
import java.util.List;
import java.util.Map;
import java.util.Set;
import java.util.TreeSet;
import javax.lang.model.element.Element;
import javax.lang.model.element.ElementKind;
import javax.lang.model.element.ExecutableElement;
import javax.lang.model.element.TypeElement;
import javax.lang.model.type.TypeKind;
import javax.tools.JavaCompiler;
import javax.tools.StandardJavaFileManager;
import javax.tools.ToolProvider;

/** The rules of ../shared/LANGUAGE.md as far as a program can look at them. */
public final class LanguageTests {
    private static final Path SOURCE = Path.of("src/main/java/CheatHeap.java");
    private static final Path DOC = Path.of("../shared/DOC.md");

    private static final Set<Tree.Kind> FORBIDDEN = EnumSet.of(Tree.Kind.THROW, Tree.Kind.TRY, Tree.Kind.CATCH,
        Tree.Kind.SYNCHRONIZED, Tree.Kind.ASSERT, Tree.Kind.LAMBDA_EXPRESSION, Tree.Kind.MEMBER_REFERENCE, Tree.Kind.PACKAGE,
        Tree.Kind.IMPORT, Tree.Kind.BINDING_PATTERN, Tree.Kind.ANNOTATION, Tree.Kind.DOUBLE_LITERAL, Tree.Kind.FLOAT_LITERAL,
        Tree.Kind.SWITCH_EXPRESSION, Tree.Kind.UNION_TYPE);
    private static final Set<String> LIBRARY = Set.of("java.lang.Math.min", "java.lang.Math.max", "java.lang.Math.abs",
        "java.lang.Math.floorMod", "java.lang.Math.floorDiv", "java.lang.System.arraycopy", "java.lang.String.length",
        "java.lang.String.charAt");

    private static Trees trees;
    private static final Map<Element, Set<Element>> CALLS = new HashMap<>();

    private LanguageTests() {
    }

    public static void main(String[] args) throws Exception {
        face();
        source();
        Checks.finish("LanguageTests");
    }

    private static void face() throws Exception {
        String doc = Files.readString(DOC);
        String block = doc.substring(doc.indexOf("public final class CheatHeap {"));
        block = block.substring(0, block.indexOf("```"));
        Set<String> due = new TreeSet<>();
        for (String line : block.split("\n")) {
            String s = line.strip();
            if (s.startsWith("public ") && s.endsWith(";")) {
                due.add(s.replaceAll("(\\w+) \\w+([,)])", "$1$2").replace(" = -1", ""));
            }
        }
        Set<String> found = new TreeSet<>();
        for (Constructor<?> c : CheatHeap.class.getDeclaredConstructors()) {
            found.add(Modifier.toString(c.getModifiers()) + " CheatHeap" + types(c.getParameterTypes()));
        }
        for (Method m : CheatHeap.class.getDeclaredMethods()) {
            if (!m.isSynthetic() && !Modifier.isPrivate(m.getModifiers())) {
                found.add(Modifier.toString(m.getModifiers()) + " " + m.getReturnType() + " " + m.getName() + types(m.getParameterTypes()));
            }
        }
        for (Field f : CheatHeap.class.getDeclaredFields()) {
            if (!Modifier.isPrivate(f.getModifiers())) {
                found.add(Modifier.toString(f.getModifiers()) + " " + f.getType() + " " + f.getName() + ";");
            }
        }
        Checks.dueText("the face", found.toString(), due.toString());
        Checks.due("NONE", CheatHeap.NONE, -1);
        Checks.due("public final", CheatHeap.class.getModifiers(), Modifier.PUBLIC | Modifier.FINAL);
    }

    private static String types(Class<?>[] types) {
        List<String> names = new ArrayList<>();
        for (Class<?> t : types) {
            names.add(t.getName());
        }
        return "(" + String.join(", ", names) + ");";
    }

    private static void source() throws Exception {
        JavaCompiler compiler = ToolProvider.getSystemJavaCompiler();
        try (StandardJavaFileManager files = compiler.getStandardFileManager(null, null, null)) {
            JavacTask task = (JavacTask) compiler.getTask(null, files, null, List.of("-proc:none"), null,
                files.getJavaFileObjects(new File(SOURCE.toString())));
            trees = Trees.instance(task);
            CompilationUnitTree unit = task.parse().iterator().next();
            task.analyze();
            Looker looker = new Looker(unit);
            looker.scan(new TreePath(unit), null);
            Checks.due("at most twelve classes", looker.classes <= 12, true);
            for (Element method : CALLS.keySet()) {
                Checks.due("depth of " + method + " in " + method.getEnclosingElement(), depth(method, new HashSet<>()) <= 8, true);
            }
        }
        for (char c : Files.readString(SOURCE).toCharArray()) {
            if (c > 126 || (c < 32 && c != '\n')) {
                Checks.due("plain text", c, 32);
            }
        }
    }

    // how many methods of our own stand open at most, 99 for a recursion
    private static int depth(Element method, Set<Element> open) {
        if (!open.add(method)) {
            return 99;
        }
        int deepest = 0;
        for (Element called : CALLS.getOrDefault(method, Set.of())) {
            deepest = Math.max(deepest, depth(called, open));
        }
        open.remove(method);
        return deepest + 1;
    }

    private static final class Looker extends TreePathScanner<Void, Void> {
        private final CompilationUnitTree unit;
        private final LineMap lines;
        private final SourcePositions positions = trees.getSourcePositions();
        private Element method = null;
        private int classes = 0;

        Looker(CompilationUnitTree unit) {
            this.unit = unit;
            lines = unit.getLineMap();
        }

        private String where(Tree tree) {
            return "line " + lines.getLineNumber(positions.getStartPosition(unit, tree)) + ": ";
        }

        @Override
        public Void scan(Tree tree, Void v) {
            if (tree != null) {
                Checks.due("no " + tree.getKind(), FORBIDDEN.contains(tree.getKind()), false);
            }
            return super.scan(tree, v);
        }

        @Override
        public Void visitClass(ClassTree tree, Void v) {
            classes++;
            Element e = trees.getElement(getCurrentPath());
            boolean isNested = e.getEnclosingElement().getKind() == ElementKind.CLASS;
            Checks.due(where(tree) + "a static class inside", !isNested || e.getModifiers().toString().contains("static"), true);
            int fields = 0;
            for (Tree member : tree.getMembers()) {
                Checks.due(where(member) + "no initialiser block", member.getKind() == Tree.Kind.BLOCK, false);
                if (member instanceof VariableTree f) {
                    String m = f.getModifiers().getFlags().toString();
                    boolean isStatic = m.contains("static");
                    fields += isStatic ? 0 : 1;
                    Checks.due(where(f) + "a static field is final", !isStatic || m.contains("final"), true);
                }
            }
            Checks.due(where(tree) + "some twenty fields", fields <= 20, true);
            return super.visitClass(tree, v);
        }

        @Override
        public Void visitMethod(MethodTree tree, Void v) {
            method = trees.getElement(getCurrentPath());
            CALLS.computeIfAbsent(method, k -> new HashSet<>());
            long first = lines.getLineNumber(positions.getStartPosition(unit, tree));
            long last = lines.getLineNumber(positions.getEndPosition(unit, tree));
            Checks.due(where(tree) + "at most sixty lines", last - first < 60, true);
            Checks.due(where(tree) + "at most seven parameters", tree.getParameters().size() <= 7, true);
            String name = tree.getName().toString();
            Checks.due(where(tree) + "none of the machine's", Set.of("equals", "hashCode", "toString").contains(name), false);
            if (!method.getModifiers().toString().contains("public")) {
                for (Method m : CheatHeap.class.getDeclaredMethods()) {
                    boolean isFace = Modifier.isPublic(m.getModifiers()) && m.getName().equals(name);
                    Checks.due(where(tree) + name + " is the name of a public one", isFace, false);
                }
            }
            super.visitMethod(tree, v);
            method = null;
            return null;
        }

        @Override
        public Void visitMethodInvocation(MethodInvocationTree tree, Void v) {
            Element called = trees.getElement(getCurrentPath());
            TypeElement owner = (TypeElement) called.getEnclosingElement();
            if (owner.getQualifiedName().toString().startsWith("CheatHeap")) {
                call(called);
            } else if (!called.getSimpleName().contentEquals("<init>")) {
                String name = owner.getQualifiedName() + "." + called.getSimpleName();
                Checks.due(where(tree) + name, LIBRARY.contains(name), true);
            }
            return super.visitMethodInvocation(tree, v);
        }

        @Override
        public Void visitNewClass(NewClassTree tree, Void v) {
            Checks.due(where(tree) + "no anonymous class", tree.getClassBody() == null, true);
            ExecutableElement made = (ExecutableElement) trees.getElement(getCurrentPath());
            String owner = ((TypeElement) made.getEnclosingElement()).getQualifiedName().toString();
            Checks.due(where(tree) + "made: " + owner, owner.startsWith("CheatHeap"), true);
            Checks.due(where(tree) + "made in a constructor", isConstructing(), true);
            call(made);
            return super.visitNewClass(tree, v);
        }

        @Override
        public Void visitNewArray(NewArrayTree tree, Void v) {
            Checks.due(where(tree) + "made in a constructor", isConstructing(), true);
            return super.visitNewArray(tree, v);
        }

        private boolean isConstructing() {
            return method == null || method.getKind() == ElementKind.CONSTRUCTOR;
        }

        @Override
        public Void visitBinary(BinaryTree tree, Void v) {
            boolean isText = trees.getTypeMirror(getCurrentPath()).getKind() == TypeKind.DECLARED;
            Checks.due(where(tree) + "no texts joined by +", isText, false);
            return super.visitBinary(tree, v);
        }

        private void call(Element called) {
            if (method != null) {
                CALLS.computeIfAbsent(method, k -> new HashSet<>()).add(called);
            }
        }
    }
}
