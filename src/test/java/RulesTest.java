import com.sun.source.tree.AnnotationTree;
import com.sun.source.tree.AssertTree;
import com.sun.source.tree.BinaryTree;
import com.sun.source.tree.ClassTree;
import com.sun.source.tree.CompilationUnitTree;
import com.sun.source.tree.ImportTree;
import com.sun.source.tree.LambdaExpressionTree;
import com.sun.source.tree.MemberReferenceTree;
import com.sun.source.tree.MethodInvocationTree;
import com.sun.source.tree.MethodTree;
import com.sun.source.tree.NewClassTree;
import com.sun.source.tree.SynchronizedTree;
import com.sun.source.tree.ThrowTree;
import com.sun.source.tree.Tree;
import com.sun.source.tree.TryTree;
import com.sun.source.tree.TypeCastTree;
import com.sun.source.tree.VariableTree;
import com.sun.source.util.JavacTask;
import com.sun.source.util.TreePath;
import com.sun.source.util.TreePathScanner;
import com.sun.source.util.Trees;
import java.io.IOException;
import java.lang.reflect.Constructor;
import java.lang.reflect.Field;
import java.lang.reflect.Method;
import java.lang.reflect.Modifier;
import java.nio.file.Files;
import java.nio.file.Path;
import java.util.Arrays;
import java.util.HashMap;
import java.util.HashSet;
import java.util.LinkedHashSet;
import java.util.List;
import java.util.Map;
import java.util.Set;
import java.util.TreeSet;
import javax.lang.model.element.Element;
import javax.lang.model.element.ElementKind;
import javax.lang.model.element.ExecutableElement;
import javax.lang.model.element.TypeElement;
import javax.lang.model.util.Elements;
import javax.tools.JavaCompiler;
import javax.tools.StandardJavaFileManager;
import javax.tools.ToolProvider;

/** The rules of ../shared/LANGUAGE.md, as far as a program can look after them, and the face of the document. */
public final class RulesTest extends TreePathScanner<Void, Void> {
    private static final Path SOURCE = Path.of("src/main/java/WheatSea.java");
    private static final int MOST_CLASSES = 12;
    private static final int MOST_FIELDS = 20;
    private static final int MOST_LINES = 60;
    private static final int MOST_PARAMETERS = 7;
    private static final int MOST_OPEN_CALLS = 8;
    private static final Set<String> LIBRARY = Set.of("String.length", "String.charAt", "Math.max", "Object.<init>");
    private static final List<String> FACE = List.of("about int int", "as int int", "bestWind int int", "blank",
            "cell int int", "count int", "digest", "fault", "forget", "home int int", "hull int int int", "image",
            "junes int int int", "latest int int", "letter int", "pass int", "plain", "restore", "sail int int",
            "see int int int", "start int", "voyage int int int", "wind int");

    private final Due due = new Due("RulesTest");
    private final Set<String> publicNames = new HashSet<>();
    private final Map<ExecutableElement, Set<ExecutableElement>> calls = new HashMap<>();
    private final Map<ExecutableElement, Integer> depths = new HashMap<>();
    private CompilationUnitTree unit;
    private Trees trees;
    private Elements elements;
    private int classes;

    public static void main(String[] args) throws IOException {
        RulesTest test = new RulesTest();
        test.face();
        test.signs();
        test.readSource();
        test.scan(test.unit, null);
        test.holds("at most " + MOST_CLASSES + " classes, not " + test.classes, test.classes <= MOST_CLASSES);
        test.openCalls();
        test.due.end();
    }

    private void holds(String rule, boolean does) {
        due.same(rule, does ? 1 : 0, 1);
    }

    private void face() {
        TreeSet<String> methods = new TreeSet<>();
        for (Method method : WheatSea.class.getDeclaredMethods()) {
            if (!Modifier.isPrivate(method.getModifiers())) {
                publicNames.add(method.getName());
                StringBuilder line = new StringBuilder(method.getName());
                Arrays.stream(method.getParameterTypes()).forEach(type -> line.append(' ').append(type));
                methods.add(line.toString());
                Class<?> answer = method.getName().equals("digest") ? long.class : int.class;
                holds("the type of " + line, method.getReturnType() == answer);
                holds("public, not static: " + line, method.getModifiers() == Modifier.PUBLIC);
            }
        }
        holds("the face " + methods, methods.equals(new TreeSet<>(FACE)));
        Set<String> constants = new TreeSet<>();
        for (Field field : WheatSea.class.getDeclaredFields()) {
            if (!Modifier.isPrivate(field.getModifiers())) {
                constants.add(field.getName());
                holds(field + " is a public constant",
                        field.getModifiers() == (Modifier.PUBLIC | Modifier.STATIC | Modifier.FINAL));
            }
        }
        holds("the constants " + constants, constants.equals(Set.of("NONE", "UNKNOWN", "OUTSIDE", "STATE", "FULL")));
        Constructor<?>[] made = WheatSea.class.getDeclaredConstructors();
        holds("one public constructor of nothing", made.length == 1 && made[0].getParameterCount() == 0
                && made[0].getModifiers() == Modifier.PUBLIC);
        holds("public and final", WheatSea.class.getModifiers() == (Modifier.PUBLIC | Modifier.FINAL));
    }

    private void signs() throws IOException {
        String text = Files.readString(SOURCE);
        holds("signs 1 to 127 alone", text.chars().allMatch(sign -> sign >= 1 && sign <= 127));
    }

    private void readSource() throws IOException {
        JavaCompiler compiler = ToolProvider.getSystemJavaCompiler();
        StandardJavaFileManager files = compiler.getStandardFileManager(null, null, null);
        JavacTask task = (JavacTask) compiler.getTask(null, files, null, List.of("-proc:none"), null,
                files.getJavaFileObjects(SOURCE));
        unit = task.parse().iterator().next();
        task.analyze();
        trees = Trees.instance(task);
        elements = task.getElements();
    }

    private void refuse(String what, Tree tree) {
        long line = unit.getLineMap().getLineNumber(trees.getSourcePositions().getStartPosition(unit, tree));
        holds("no " + what + " (line " + line + ")", false);
    }

    private Element here(Tree tree) {
        return trees.getElement(TreePath.getPath(unit, tree));
    }

    // ---- what must not stand there

    @Override
    public Void visitThrow(ThrowTree tree, Void none) {
        refuse("throw", tree);
        return super.visitThrow(tree, none);
    }

    @Override
    public Void visitTry(TryTree tree, Void none) {
        refuse("try", tree);
        return super.visitTry(tree, none);
    }

    @Override
    public Void visitSynchronized(SynchronizedTree tree, Void none) {
        refuse("synchronized", tree);
        return super.visitSynchronized(tree, none);
    }

    @Override
    public Void visitAssert(AssertTree tree, Void none) {
        refuse("assert", tree);
        return super.visitAssert(tree, none);
    }

    @Override
    public Void visitLambdaExpression(LambdaExpressionTree tree, Void none) {
        refuse("lambda", tree);
        return super.visitLambdaExpression(tree, none);
    }

    @Override
    public Void visitMemberReference(MemberReferenceTree tree, Void none) {
        refuse("method reference", tree);
        return super.visitMemberReference(tree, none);
    }

    @Override
    public Void visitAnnotation(AnnotationTree tree, Void none) {
        refuse("annotation: it is not in the list of the library", tree);
        return super.visitAnnotation(tree, none);
    }

    @Override
    public Void visitImport(ImportTree tree, Void none) {
        refuse("import", tree);
        return super.visitImport(tree, none);
    }

    @Override
    public Void visitTypeCast(TypeCastTree tree, Void none) {
        holds("casts of numbers alone: " + tree, tree.getType().getKind() == Tree.Kind.PRIMITIVE_TYPE);
        return super.visitTypeCast(tree, none);
    }

    @Override
    public Void visitBinary(BinaryTree tree, Void none) {
        if (tree.getKind() == Tree.Kind.PLUS) {
            String type = String.valueOf(trees.getTypeMirror(getCurrentPath()));
            holds("no texts joined by +: " + tree, !type.equals("java.lang.String"));
        }
        return super.visitBinary(tree, none);
    }

    // ---- what must be so

    @Override
    public Void visitClass(ClassTree tree, Void none) {
        classes++;
        Element element = here(tree);
        boolean outer = element.getEnclosingElement().getKind() == ElementKind.PACKAGE;
        Set<javax.lang.model.element.Modifier> modifiers = element.getModifiers();
        holds("a class inside is static and not public: " + element, outer
                || modifiers.contains(javax.lang.model.element.Modifier.STATIC)
                && !modifiers.contains(javax.lang.model.element.Modifier.PUBLIC)
                && !modifiers.contains(javax.lang.model.element.Modifier.PROTECTED));
        int fields = 0;
        for (Tree member : tree.getMembers()) {
            holds("no block in " + element, member.getKind() != Tree.Kind.BLOCK);
            if (member instanceof VariableTree field) {
                boolean isStatic = here(field).getModifiers().contains(javax.lang.model.element.Modifier.STATIC);
                holds("static is final: " + field, !isStatic
                        || here(field).getModifiers().contains(javax.lang.model.element.Modifier.FINAL));
                fields += isStatic ? 0 : 1;
            }
        }
        holds("at most " + MOST_FIELDS + " fields in " + element, fields <= MOST_FIELDS);
        return super.visitClass(tree, none);
    }

    @Override
    public Void visitMethod(MethodTree tree, Void none) {
        ExecutableElement method = (ExecutableElement) here(tree);
        holds("parameters of " + method, method.getParameters().size() <= MOST_PARAMETERS);
        long first = unit.getLineMap().getLineNumber(Math.max(0, trees.getSourcePositions().getStartPosition(unit, tree)));
        long last = unit.getLineMap().getLineNumber(Math.max(0, trees.getSourcePositions().getEndPosition(unit, tree)));
        holds("lines of " + method, last - first < MOST_LINES);
        if (!method.getModifiers().contains(javax.lang.model.element.Modifier.PUBLIC)) {
            holds("no public name for " + method, !publicNames.contains(method.getSimpleName().toString()));
        }
        holds("nothing of Object: " + method,
                !Set.of("equals", "hashCode", "toString").contains(method.getSimpleName().toString()));
        calls.computeIfAbsent(method, key -> new LinkedHashSet<>());
        return super.visitMethod(tree, none);
    }

    @Override
    public Void visitMethodInvocation(MethodInvocationTree tree, Void none) {
        called((ExecutableElement) trees.getElement(getCurrentPath()));
        return super.visitMethodInvocation(tree, none);
    }

    @Override
    public Void visitNewClass(NewClassTree tree, Void none) {
        holds("no anonymous class", tree.getClassBody() == null);
        called((ExecutableElement) trees.getElement(getCurrentPath()));
        return super.visitNewClass(tree, none);
    }

    private void called(ExecutableElement method) {
        TypeElement owner = (TypeElement) method.getEnclosingElement();
        boolean own = String.valueOf(elements.getBinaryName(owner)).startsWith("WheatSea");
        String name = owner.getSimpleName() + "." + method.getSimpleName();
        holds("in the list of the library: " + name, own || LIBRARY.contains(name));
        TreePath path = getCurrentPath();
        while (path != null && !(path.getLeaf() instanceof MethodTree)) {
            path = path.getParentPath();
        }
        if (own && path != null) {
            ExecutableElement from = (ExecutableElement) trees.getElement(path);
            calls.computeIfAbsent(from, key -> new LinkedHashSet<>()).add(method);
        }
    }

    // ---- how many calls stand open

    private void openCalls() {
        for (ExecutableElement method : List.copyOf(calls.keySet())) {
            int depth = depthOf(method, new HashSet<>());
            holds(depth + " calls open below " + method, depth <= MOST_OPEN_CALLS);
        }
    }

    private int depthOf(ExecutableElement method, Set<ExecutableElement> open) {
        if (depths.containsKey(method)) {
            return depths.get(method);
        }
        holds("no recursion by " + method, open.add(method));
        int deepest = 0;
        for (ExecutableElement next : calls.getOrDefault(method, Set.of())) {
            for (ExecutableElement meant : calls.keySet()) {
                boolean overrides = meant.equals(next) || elements.overrides(meant, next,
                        (TypeElement) meant.getEnclosingElement());
                if (overrides && !open.contains(meant)) {
                    deepest = Math.max(deepest, depthOf(meant, open));
                } else if (overrides) {
                    holds("no recursion by " + method + " and " + meant, false);
                }
            }
        }
        open.remove(method);
        depths.put(method, deepest + 1);
        return deepest + 1;
    }
}
