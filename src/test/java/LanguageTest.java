import com.sun.source.tree.ClassTree;
import com.sun.source.tree.CompilationUnitTree;
import com.sun.source.tree.ImportTree;
import com.sun.source.tree.MethodInvocationTree;
import com.sun.source.tree.MethodTree;
import com.sun.source.tree.NewClassTree;
import com.sun.source.tree.Tree;
import com.sun.source.tree.VariableTree;
import com.sun.source.util.JavacTask;
import com.sun.source.util.TreePathScanner;
import com.sun.source.util.Trees;
import java.io.IOException;
import java.nio.file.Path;
import java.util.ArrayList;
import java.util.LinkedHashMap;
import java.util.List;
import java.util.Map;
import java.util.Set;
import java.util.TreeMap;
import java.util.TreeSet;
import javax.lang.model.element.Element;
import javax.lang.model.element.ElementKind;
import javax.lang.model.element.Modifier;
import javax.tools.JavaCompiler;
import javax.tools.ToolProvider;

/** The rules of LANGUAGE.md that can be read off the class's source; a method for each of them. */
public final class LanguageTest {
    private static final Check check = new Check();
    private static final Path FILE = Path.of("src/main/java/HashTree.java");
    private static final int MOST_CALLS_DEEP = 8;

    public static void main(String[] args) throws IOException {
        Source source = Source.read(FILE);
        noPrivateMethodNamedAsAPublicOne(source);
        classesInside(source);
        types(source);
        library(source);
        staticFields(source);
        nothingThrown(source);
        callsDeep(source);
        sizes(source);
        constructorsCallNothing(source);
        check.end();
    }

    private static void noPrivateMethodNamedAsAPublicOne(Source source) {
        check.sentence("rule 1: no private method bears the name of a public one");
        Set<String> open = new TreeSet<>();
        for (Element method : source.methods.keySet()) {
            if (method.getModifiers().contains(Modifier.PUBLIC)) {
                open.add(method.getSimpleName().toString());
            }
        }
        for (Element method : source.methods.keySet()) {
            boolean named = method.getKind() == ElementKind.METHOD && open.contains(method.getSimpleName().toString());
            check.due(Source.nameOf(method), named, method.getModifiers().contains(Modifier.PUBLIC) && named);
        }
    }

    private static void classesInside(Source source) {
        check.sentence("rule 2: classes inside are static; none is local or anonymous; no lambda, no method reference");
        for (Element made : source.classes.keySet()) {
            boolean outer = made.getSimpleName().contentEquals("HashTree");
            boolean fine = outer || made.getEnclosingElement().getKind().isClass()
                && made.getModifiers().contains(Modifier.STATIC);
            check.due("class " + made, fine, true);
        }
        dueNone(source, Tree.Kind.LAMBDA_EXPRESSION, Tree.Kind.MEMBER_REFERENCE);
    }

    private static void types(Source source) {
        check.sentence("rule 3: numbers, own classes, and rows of these");
        for (Map.Entry<Element, VariableTree> variable : source.variables.entrySet()) {
            String type = variable.getKey().asType().toString();
            String part = type.endsWith("[]") ? type.substring(0, type.length() - 2) : type;
            boolean fine = Set.of("int", "long", "boolean").contains(part) || part.startsWith("HashTree.");
            check.due(variable.getValue() + " of type " + type, fine, true);
        }
    }

    private static void library(Source source) {
        check.sentence("rule 4: the library, only what stands there");
        Set<String> listed = Set.of("java.lang.System.arraycopy", "java.util.Arrays.copyOf",
            "java.util.Arrays.copyOfRange", "java.util.Arrays.fill", "clone");
        Set<String> numbers = Set.of("java.lang.Integer", "java.lang.Long", "java.lang.Math");
        for (String call : source.libraryCalls) {
            boolean ofNumbers = numbers.contains(call.substring(0, Math.max(0, call.lastIndexOf('.'))));
            check.due(call, listed.contains(call) || ofNumbers && !call.endsWith("Exact"), true);
        }
        for (ImportTree line : source.imports) {
            String name = line.getQualifiedIdentifier().toString();
            boolean fine = Set.of("java.util.Arrays", "java.util.ArrayList", "java.util.List").contains(name);
            check.due("import " + name, fine && !line.isStatic(), true);
        }
    }

    private static void staticFields(Source source) {
        check.sentence("rule 5: static fields are final, constants or rows written out; no static block");
        for (Map.Entry<Element, VariableTree> field : source.variables.entrySet()) {
            Set<Modifier> modifiers = field.getKey().getModifiers();
            if (field.getKey().getKind() == ElementKind.FIELD && modifiers.contains(Modifier.STATIC)) {
                String type = field.getKey().asType().toString();
                check.due(field.getKey() + " is final", modifiers.contains(Modifier.FINAL), true);
                check.due(field.getKey() + " has a value", field.getValue().getInitializer() != null, true);
                check.due(field.getKey() + " of type " + type,
                    Set.of("int", "long", "boolean", "char", "java.lang.String", "int[]", "long[]", "char[]", "byte[]")
                        .contains(type), true);
            }
        }
        for (ClassTree made : source.classes.values()) {
            for (Tree member : made.getMembers()) {
                check.due("a block in " + made.getSimpleName(), member.getKind() == Tree.Kind.BLOCK, false);
            }
        }
    }

    private static void nothingThrown(Source source) {
        check.sentence("rule 6: no throw, try, catch, synchronized, assert");
        dueNone(source, Tree.Kind.THROW, Tree.Kind.TRY, Tree.Kind.CATCH, Tree.Kind.SYNCHRONIZED, Tree.Kind.ASSERT);
        for (Element method : source.methods.keySet()) {
            check.due("synchronized " + method, method.getModifiers().contains(Modifier.SYNCHRONIZED), false);
        }
    }

    /** The library's calls count as one more; a method that comes back to itself would be deeper than any bound. */
    private static void callsDeep(Source source) {
        check.sentence("rules 8 and 11: calls go at most eight deep, none of them recursion");
        for (String method : source.calls.keySet()) {
            int deep = source.depth(method, MOST_CALLS_DEEP);
            check.due(method + " goes " + deep + " deep", deep <= MOST_CALLS_DEEP, true);
        }
    }

    private static void sizes(Source source) {
        check.sentence("rule 11: seven parameters, some sixty lines, some twelve classes, some twenty fields");
        for (Map.Entry<Element, MethodTree> method : source.methods.entrySet()) {
            String name = Source.nameOf(method.getKey());
            check.due(name + "'s parameters", method.getValue().getParameters().size() <= 7, true);
            check.due(name + "'s lines", source.lines(method.getValue()) <= 60, true);
        }
        check.due("classes", source.classes.size() <= 12, true);
        for (Element made : source.classes.keySet()) {
            long fields = made.getEnclosedElements().stream().filter(
                e -> e.getKind() == ElementKind.FIELD && !e.getModifiers().contains(Modifier.STATIC)).count();
            check.due("fields of " + made, fields <= 20, true);
        }
    }

    private static void constructorsCallNothing(Source source) {
        check.sentence("rule 12: a constructor calls no method that another class could override");
        for (Element method : source.methods.keySet()) {
            if (method.getKind() == ElementKind.CONSTRUCTOR) {
                for (String call : source.calls.getOrDefault(Source.nameOf(method), Set.of())) {
                    check.due(Source.nameOf(method) + " calls " + call, call.contains("<init>"), true);
                }
            }
        }
    }

    private static void dueNone(Source source, Tree.Kind... kinds) {
        for (Tree.Kind kind : kinds) {
            check.due("a " + kind, source.kinds.contains(kind), false);
        }
    }

    /** What stands in the source, as the compiler understands it. */
    private static final class Source extends TreePathScanner<Void, String> {
        final Map<Element, ClassTree> classes = new LinkedHashMap<>();
        final Map<Element, MethodTree> methods = new LinkedHashMap<>();
        final Map<Element, VariableTree> variables = new LinkedHashMap<>();
        final List<ImportTree> imports = new ArrayList<>();
        final Set<Tree.Kind> kinds = new TreeSet<>();
        final Map<String, Set<String>> calls = new TreeMap<>();
        final Set<String> libraryCalls = new TreeSet<>();
        private final Trees trees;
        private final CompilationUnitTree unit;

        private Source(Trees trees, CompilationUnitTree unit) {
            this.trees = trees;
            this.unit = unit;
        }

        static Source read(Path file) throws IOException {
            JavaCompiler compiler = ToolProvider.getSystemJavaCompiler();
            var files = compiler.getStandardFileManager(null, null, null);
            JavacTask task = (JavacTask) compiler.getTask(
                null, files, null, List.of("-proc:none"), null, files.getJavaFileObjects(file));
            CompilationUnitTree unit = task.parse().iterator().next();
            task.analyze();
            Source source = new Source(Trees.instance(task), unit);
            source.scan(unit, "");
            return source;
        }

        static String nameOf(Element method) {
            return method.getEnclosingElement() + "." + method.getSimpleName();
        }

        long lines(Tree tree) {
            long start = trees.getSourcePositions().getStartPosition(unit, tree);
            long end = trees.getSourcePositions().getEndPosition(unit, tree);
            return unit.getLineMap().getLineNumber(end) - unit.getLineMap().getLineNumber(start) + 1;
        }

        /** How deep the calls from a method go, itself counted; most + 1 stands for all that is deeper. */
        int depth(String method, int most) {
            int below = 0;
            for (String call : most == 0 ? Set.<String>of() : calls.getOrDefault(method, Set.of())) {
                below = Math.max(below, depth(call, most - 1));
            }
            return below + 1;
        }

        @Override
        public Void scan(Tree tree, String within) {
            if (tree != null) {
                kinds.add(tree.getKind());
            }
            return super.scan(tree, within);
        }

        @Override
        public Void visitImport(ImportTree line, String within) {
            imports.add(line);
            return super.visitImport(line, within);
        }

        @Override
        public Void visitClass(ClassTree made, String within) {
            classes.put(here(), made);
            return super.visitClass(made, here() + ".<init>");
        }

        @Override
        public Void visitMethod(MethodTree method, String within) {
            methods.put(here(), method);
            return super.visitMethod(method, nameOf(here()));
        }

        @Override
        public Void visitVariable(VariableTree variable, String within) {
            variables.put(here(), variable);
            return super.visitVariable(variable, within);
        }

        @Override
        public Void visitMethodInvocation(MethodInvocationTree call, String within) {
            called(within);
            return super.visitMethodInvocation(call, within);
        }

        @Override
        public Void visitNewClass(NewClassTree made, String within) {
            called(within);
            return super.visitNewClass(made, within);
        }

        private Element here() {
            return trees.getElement(getCurrentPath());
        }

        private void called(String within) {
            Element owner = here().getEnclosingElement();
            String name = owner.getSimpleName().contentEquals("Array") ? "clone" : nameOf(here());
            calls.computeIfAbsent(within, any -> new TreeSet<>()).add(name);
            boolean own = name.startsWith("HashTree.") || name.equals("java.lang.Object.<init>");
            if (!own) {
                libraryCalls.add(name);
            }
        }
    }
}
