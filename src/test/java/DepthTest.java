import com.sun.source.tree.ClassTree;
import com.sun.source.tree.MemberSelectTree;
import com.sun.source.tree.MethodInvocationTree;
import com.sun.source.tree.MethodTree;
import com.sun.source.tree.NewClassTree;
import com.sun.source.tree.VariableTree;
import com.sun.source.util.JavacTask;
import com.sun.source.util.TreePath;
import com.sun.source.util.TreePathScanner;
import com.sun.source.util.Trees;
import java.io.File;
import java.util.ArrayList;
import java.util.HashMap;
import java.util.LinkedHashMap;
import java.util.LinkedHashSet;
import java.util.List;
import java.util.Map;
import java.util.Set;
import javax.lang.model.element.Element;
import javax.lang.model.element.ElementKind;
import javax.lang.model.element.ExecutableElement;
import javax.lang.model.element.TypeElement;
import javax.tools.JavaCompiler;
import javax.tools.ToolProvider;

/**
 * Rule 11 of LANGUAGE.md: how deep calls go, by the compiler's own view of the class. A call of a method that is
 * overridden goes to all that override it; constructors and calls of the library count, too.
 */
public final class DepthTest {
    private static final int DEEPEST = 8;

    private final Map<ExecutableElement, Set<ExecutableElement>> calls = new LinkedHashMap<>();
    private final Map<ExecutableElement, List<ExecutableElement>> longest = new HashMap<>();
    private final Set<ExecutableElement> open = new LinkedHashSet<>();
    private final Map<ExecutableElement, Set<ExecutableElement>> overridable = new LinkedHashMap<>();
    private boolean recursive;

    public static void main(String[] args) throws Exception {
        Checks c = new Checks("Depth");
        new DepthTest().all(c);
        c.end();
    }

    private void all(Checks c) throws Exception {
        JavaCompiler compiler = ToolProvider.getSystemJavaCompiler();
        try (var files = compiler.getStandardFileManager(null, null, null)) {
            var source = files.getJavaFileObjects(new File("src/main/java/YesterdayScale.java"));
            JavacTask task = (JavacTask) compiler.getTask(null, files, null, List.of("-proc:none"), null, source);
            var units = task.parse();
            task.analyze();
            Calls scanner = new Calls(Trees.instance(task));
            units.forEach(unit -> scanner.scan(unit, null));
            addOverriders(task);
        }
        List<ExecutableElement> deepest = List.of();
        for (ExecutableElement from : List.copyOf(calls.keySet())) {
            List<ExecutableElement> chain = chainFrom(from);
            deepest = chain.size() > deepest.size() ? chain : deepest;
        }
        System.out.println("the deepest chain of calls: " + named(deepest));
        c.hold("methods were found: " + calls.size(), calls.size() > 100);
        c.hold("no chain comes back to itself", !recursive);
        c.hold("at most eight deep: " + deepest.size(), deepest.size() <= DEEPEST);
    }

    private static String named(List<ExecutableElement> chain) {
        StringBuilder text = new StringBuilder();
        for (ExecutableElement each : chain) {
            text.append(text.length() == 0 ? "" : " > ").append(each.getEnclosingElement().getSimpleName())
                .append('.').append(each.getSimpleName());
        }
        return text.toString();
    }

    private void addOverriders(JavacTask task) {
        for (ExecutableElement over : List.copyOf(calls.keySet())) {
            TypeElement type = (TypeElement) over.getEnclosingElement();
            overridable.forEach((under, callers) -> {
                if (task.getElements().overrides(over, under, type)) {
                    callers.forEach(from -> calls.get(from).add(over));
                }
            });
        }
    }

    private List<ExecutableElement> chainFrom(ExecutableElement from) {
        if (longest.containsKey(from)) {
            return longest.get(from);
        }
        if (!open.add(from)) {
            recursive = true;
            return List.of();
        }
        List<ExecutableElement> best = List.of();
        for (ExecutableElement to : calls.getOrDefault(from, Set.of())) {
            List<ExecutableElement> chain = chainFrom(to);
            best = chain.size() > best.size() ? chain : best;
        }
        open.remove(from);
        List<ExecutableElement> whole = new ArrayList<>(List.of(from));
        whole.addAll(best);
        longest.put(from, whole);
        return whole;
    }

    /** Finds which method calls which; what stands outside of methods is called by the constructors. */
    private final class Calls extends TreePathScanner<Void, Void> {
        private final Trees trees;
        private Set<ExecutableElement> callers = Set.of();

        Calls(Trees trees) {
            this.trees = trees;
        }

        @Override
        public Void visitMethod(MethodTree tree, Void nothing) {
            Set<ExecutableElement> outer = callers;
            callers = Set.of((ExecutableElement) trees.getElement(getCurrentPath()));
            callers.forEach(each -> calls.computeIfAbsent(each, key -> new LinkedHashSet<>()));
            super.visitMethod(tree, nothing);
            callers = outer;
            return null;
        }

        @Override
        public Void visitVariable(VariableTree tree, Void nothing) {
            Set<ExecutableElement> outer = callers;
            TreePath parent = getCurrentPath().getParentPath();
            if (parent.getLeaf() instanceof ClassTree) {
                callers = new LinkedHashSet<>();
                for (Element each : trees.getElement(parent).getEnclosedElements()) {
                    if (each.getKind() == ElementKind.CONSTRUCTOR) {
                        callers.add((ExecutableElement) each);
                    }
                }
            }
            super.visitVariable(tree, nothing);
            callers = outer;
            return null;
        }

        @Override
        public Void visitMethodInvocation(MethodInvocationTree tree, Void nothing) {
            boolean bySuper = tree.getMethodSelect() instanceof MemberSelectTree select
                && select.getExpression().toString().equals("super");
            called(trees.getElement(getCurrentPath()), !bySuper);
            return super.visitMethodInvocation(tree, nothing);
        }

        @Override
        public Void visitNewClass(NewClassTree tree, Void nothing) {
            called(trees.getElement(getCurrentPath()), false);
            return super.visitNewClass(tree, nothing);
        }

        private void called(Element element, boolean maybeOverridden) {
            ExecutableElement to = (ExecutableElement) element;
            for (ExecutableElement from : callers) {
                calls.computeIfAbsent(from, key -> new LinkedHashSet<>()).add(to);
                if (maybeOverridden) {
                    overridable.computeIfAbsent(to, key -> new LinkedHashSet<>()).add(from);
                }
            }
        }
    }
}
