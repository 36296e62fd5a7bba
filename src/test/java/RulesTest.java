import com.sun.source.tree.AssertTree;
import com.sun.source.tree.BinaryTree;
import com.sun.source.tree.ClassTree;
import com.sun.source.tree.CompilationUnitTree;
import com.sun.source.tree.CompoundAssignmentTree;
import com.sun.source.tree.ExpressionTree;
import com.sun.source.tree.ImportTree;
import com.sun.source.tree.LambdaExpressionTree;
import com.sun.source.tree.LiteralTree;
import com.sun.source.tree.MemberReferenceTree;
import com.sun.source.tree.MethodInvocationTree;
import com.sun.source.tree.MethodTree;
import com.sun.source.tree.NewClassTree;
import com.sun.source.tree.SynchronizedTree;
import com.sun.source.tree.ThrowTree;
import com.sun.source.tree.Tree;
import com.sun.source.tree.TryTree;
import com.sun.source.tree.TypeCastTree;
import com.sun.source.tree.VariableTree;
import com.sun.source.util.JavacTask;
import com.sun.source.util.TreePath;
import com.sun.source.util.TreePathScanner;
import com.sun.source.util.Trees;
import java.io.IOException;
import java.lang.reflect.Constructor;
import java.lang.reflect.Field;
import java.lang.reflect.Method;
import java.lang.reflect.Modifier;
import java.nio.file.Path;
import java.util.Arrays;
import java.util.HashMap;
import java.util.HashSet;
import java.util.LinkedHashSet;
import java.util.List;
import java.util.Map;
import java.util.Set;
import java.util.TreeSet;
import javax.lang.model.element.Element;
import javax.lang.model.element.ElementKind;
import javax.lang.model.element.ExecutableElement;
import javax.lang.model.element.TypeElement;
import javax.lang.model.type.ArrayType;
import javax.lang.model.type.DeclaredType;
import javax.lang.model.type.TypeKind;
import javax.lang.model.type.TypeMirror;
import javax.lang.model.util.Elements;
import javax.tools.JavaCompiler;
import javax.tools.StandardJavaFileManager;
import javax.tools.ToolProvider;

/**
 * The face of the document, and the rules of ../shared/LANGUAGE.md as far as a program can look after them:
 * what they allow is allowed here, too, whether the class uses it now or not.
 */
public final class RulesTest extends TreePathScanner<Void, Void> {
    private static final Path SOURCE = Path.of("src/main/java/WheatSea.java");

    // "Some twelve", "some twenty" and "some sixty" leave a little room; "at most" leaves none.
    private static final int MOST_CLASSES = 12 + 2;
    private static final int MOST_FIELDS = 20 + 2;
    private static final int MOST_LINES = 60 + 5;
    private static final int MOST_PARAMETERS = 7;
    private static final int MOST_OPEN_CALLS = 8;

    private static final List<String> FACE = List.of("about int int", "as int int", "bestWind int int", "blank",
            "cell int int", "count int", "digest", "fault", "forget", "home int int", "hull int int int", "image",
            "junes int int int", "latest int int", "letter int", "pass int", "plain", "restore", "sail int int",
            "see int int int", "start int", "voyage int int int", "wind int");
    private static final Set<String> TYPES = Set.of("java.lang.String", "java.lang.StringBuilder", "java.lang.Integer",
            "java.util.ArrayList", "java.util.List", "java.util.Iterator", "java.lang.Iterable", "java.lang.Comparable");
    private static final Set<String> CONSTANTS = Set.of("int", "long", "boolean", "char", "java.lang.String", "int[]",
            "long[]", "char[]", "byte[]");
    private static final Set<String> IMPORTS = Set.of("java.util.ArrayList", "java.util.List", "java.util.Arrays",
            "java.util.Iterator", "java.util.*");
    private static final Set<String> LIBRARY = library();

    private final Due due = new Due("RulesTest");
    private final Set<String> publicNames = new HashSet<>();
    private final Map<ExecutableElement, Set<ExecutableElement>> calls = new HashMap<>();
    private final Map<ExecutableElement, Integer> depths = new HashMap<>();
    private CompilationUnitTree unit;
    private Trees trees;
    private Elements elements;
    private int classes;

    public static void main(String[] args) throws IOException {
        RulesTest test = new RulesTest();
        test.face();
        test.readSource();
        test.scan(test.unit, null);
        test.holds("11: some twelve classes, not " + test.classes, test.classes <= MOST_CLASSES);
        test.openCalls();
        test.due.end();
    }

    private static Set<String> library() {
        Set<String> names = new HashSet<>(Set.of("Object.<init>", "System.arraycopy", "Array.clone", "Iterator.hasNext",
                "Iterator.next", "Iterable.iterator", "Comparable.compareTo", "List.of", "Enum.<init>", "Record.<init>"));
        all(names, "String", "<init> length charAt isEmpty equals indexOf substring toCharArray");
        all(names, "StringBuilder", "<init> append charAt setCharAt setLength deleteCharAt reverse length toString");
        // Where javac finds some of them.
        all(names, "AbstractStringBuilder", "charAt setCharAt setLength length");
        all(names, "ArrayList", "<init> add get set remove size isEmpty clear");
        all(names, "List", "add get set remove size isEmpty clear");
        all(names, "Arrays", "copyOf copyOfRange fill");
        return names;
    }

    private static void all(Set<String> names, String owner, String methods) {
        for (String method : methods.split(" ")) {
            names.add(owner + "." + method);
        }
    }

    private void holds(String rule, boolean does) {
        due.same(rule, does ? 1 : 0, 1);
    }

    // ---- the face

    private void face() {
        TreeSet<String> methods = new TreeSet<>();
        for (Method method : WheatSea.class.getDeclaredMethods()) {
            if (Modifier.isPrivate(method.getModifiers()) || method.isSynthetic()) {
                continue;
            }
            publicNames.add(method.getName());
            StringBuilder line = new StringBuilder(method.getName());
            Arrays.stream(method.getParameterTypes()).forEach(type -> line.append(' ').append(type));
            methods.add(line.toString());
            Class<?> answer = method.getName().equals("digest") ? long.class : int.class;
            holds("1: the type of " + line, method.getReturnType() == answer);
            holds("1: public, not static: " + line, Modifier.isPublic(method.getModifiers())
                    && !Modifier.isStatic(method.getModifiers()));
        }
        holds("1: the face " + methods, methods.equals(new TreeSet<>(FACE)));
        constants();
        int made = 0;
        for (Constructor<?> constructor : WheatSea.class.getDeclaredConstructors()) {
            if (!Modifier.isPrivate(constructor.getModifiers()) && !constructor.isSynthetic()) {
                made++;
                holds("1: a public constructor of nothing", constructor.getParameterCount() == 0
                        && Modifier.isPublic(constructor.getModifiers()));
            }
        }
        holds("1: one constructor", made == 1);
        holds("1: public and final", WheatSea.class.getModifiers() == (Modifier.PUBLIC | Modifier.FINAL));
    }

    private void constants() {
        Set<String> names = new TreeSet<>();
        for (Field field : WheatSea.class.getDeclaredFields()) {
            if (!Modifier.isPrivate(field.getModifiers()) && !field.isSynthetic()) {
                names.add(field.getName());
                holds("1: " + field + " is a public constant", field.getType() == int.class
                        && field.getModifiers() == (Modifier.PUBLIC | Modifier.STATIC | Modifier.FINAL));
            }
        }
        holds("1: the constants " + names, names.equals(Set.of("NONE", "UNKNOWN", "OUTSIDE", "STATE", "FULL")));
    }

    // ---- the source

    private void readSource() throws IOException {
        JavaCompiler compiler = ToolProvider.getSystemJavaCompiler();
        StandardJavaFileManager files = compiler.getStandardFileManager(null, null, null);
        JavacTask task = (JavacTask) compiler.getTask(null, files, null, List.of("-proc:none"), null,
                files.getJavaFileObjects(SOURCE));
        unit = task.parse().iterator().next();
        task.analyze();
        trees = Trees.instance(task);
        elements = task.getElements();
        holds("one file without a package line", unit.getPackageName() == null);
        holds("one class of the face in the file", unit.getTypeDecls().size() == 1);
    }

    private void refuse(String what, Tree tree) {
        holds(what + " (line " + lineOf(tree, true) + ")", false);
    }

    private long lineOf(Tree tree, boolean first) {
        long at = first ? trees.getSourcePositions().getStartPosition(unit, tree)
                : trees.getSourcePositions().getEndPosition(unit, tree);
        return at < 0 ? 0 : unit.getLineMap().getLineNumber(at);
    }

    private Element here(Tree tree) {
        return trees.getElement(TreePath.getPath(unit, tree));
    }

    private TypeMirror typeOf(Tree tree) {
        return trees.getTypeMirror(TreePath.getPath(unit, tree));
    }

    // ---- what must not stand there

    @Override
    public Void visitThrow(ThrowTree tree, Void none) {
        refuse("6: no throw", tree);
        return super.visitThrow(tree, none);
    }

    @Override
    public Void visitTry(TryTree tree, Void none) {
        refuse("6: no try", tree);
        return super.visitTry(tree, none);
    }

    @Override
    public Void visitSynchronized(SynchronizedTree tree, Void none) {
        refuse("6: no synchronized", tree);
        return super.visitSynchronized(tree, none);
    }

    @Override
    public Void visitAssert(AssertTree tree, Void none) {
        refuse("6: no assert", tree);
        return super.visitAssert(tree, none);
    }

    @Override
    public Void visitLambdaExpression(LambdaExpressionTree tree, Void none) {
        refuse("2: no lambda", tree);
        return super.visitLambdaExpression(tree, none);
    }

    @Override
    public Void visitMemberReference(MemberReferenceTree tree, Void none) {
        refuse("2: no method reference", tree);
        return super.visitMemberReference(tree, none);
    }

    @Override
    public Void visitImport(ImportTree tree, Void none) {
        String name = tree.getQualifiedIdentifier().toString();
        holds("4: in the list of the library: import " + name, !tree.isStatic() && IMPORTS.contains(name));
        // The names in the line itself are no uses.
        return null;
    }

    @Override
    public Void visitTypeCast(TypeCastTree tree, Void none) {
        TypeMirror to = typeOf(tree.getType());
        holds("6: casts of numbers and among own classes: " + tree, to.getKind().isPrimitive() || isOwn(to));
        return super.visitTypeCast(tree, none);
    }

    @Override
    public Void visitLiteral(LiteralTree tree, Void none) {
        boolean isText = tree.getKind() == Tree.Kind.STRING_LITERAL || tree.getKind() == Tree.Kind.CHAR_LITERAL;
        if (isText) {
            String text = String.valueOf(tree.getValue());
            holds("4: signs 1 to 127: " + tree, text.chars().allMatch(sign -> sign >= 1 && sign <= 127));
        }
        return super.visitLiteral(tree, none);
    }

    @Override
    public Void visitBinary(BinaryTree tree, Void none) {
        if (tree.getKind() == Tree.Kind.PLUS) {
            holds("10: no texts joined by +: " + tree, !isText(typeOf(tree)));
        }
        if (tree.getKind() == Tree.Kind.EQUAL_TO || tree.getKind() == Tree.Kind.NOT_EQUAL_TO) {
            holds("6: no two Strings or Integers by == or !=: " + tree,
                    !isBoxOrText(tree.getLeftOperand()) || !isBoxOrText(tree.getRightOperand()));
        }
        return super.visitBinary(tree, none);
    }

    @Override
    public Void visitCompoundAssignment(CompoundAssignmentTree tree, Void none) {
        holds("10: no texts joined by +=: " + tree, !isText(typeOf(tree.getVariable())));
        return super.visitCompoundAssignment(tree, none);
    }

    private static boolean isText(TypeMirror type) {
        return String.valueOf(type).equals("java.lang.String");
    }

    private boolean isBoxOrText(ExpressionTree tree) {
        TypeMirror type = typeOf(tree);
        return isText(type) || String.valueOf(type).equals("java.lang.Integer");
    }

    // ---- types

    private boolean isOwn(TypeMirror type) {
        return type.getKind() == TypeKind.DECLARED
                && String.valueOf(elements.getBinaryName((TypeElement) ((DeclaredType) type).asElement()))
                .startsWith("WheatSea");
    }

    private boolean isAllowed(TypeMirror type) {
        if (type.getKind().isPrimitive() || type.getKind() == TypeKind.VOID || type.getKind() == TypeKind.TYPEVAR) {
            return true;
        }
        if (type.getKind() == TypeKind.ARRAY) {
            return isAllowedRow((ArrayType) type);
        }
        if (type.getKind() != TypeKind.DECLARED) {
            return false;
        }
        TypeElement element = (TypeElement) ((DeclaredType) type).asElement();
        return isOwn(type) || TYPES.contains(element.getQualifiedName().toString());
    }

    /** Of one dimension, or of two dimensions of numbers. */
    private boolean isAllowedRow(ArrayType row) {
        TypeMirror of = row.getComponentType();
        if (of.getKind() == TypeKind.ARRAY) {
            return ((ArrayType) of).getComponentType().getKind().isPrimitive();
        }
        return of.getKind().isPrimitive() || of.getKind() == TypeKind.TYPEVAR || isOwn(of);
    }

    @Override
    public Void visitVariable(VariableTree tree, Void none) {
        TypeMirror type = typeOf(tree);
        holds("3: the type of " + tree.getName() + ", " + type, isAllowed(type));
        return super.visitVariable(tree, none);
    }

    // ---- what must be so

    @Override
    public Void visitClass(ClassTree tree, Void none) {
        classes++;
        Element element = here(tree);
        Element around = element.getEnclosingElement();
        boolean isInside = around.getKind() != ElementKind.PACKAGE;
        Set<javax.lang.model.element.Modifier> modifiers = element.getModifiers();
        holds("2: no local or anonymous class: " + element, !isInside || around.getKind().isClass()
                || around.getKind().isInterface());
        holds("1: a class inside is static and not public: " + element, !isInside
                || modifiers.contains(javax.lang.model.element.Modifier.STATIC)
                && !modifiers.contains(javax.lang.model.element.Modifier.PUBLIC)
                && !modifiers.contains(javax.lang.model.element.Modifier.PROTECTED));
        int fields = 0;
        for (Tree member : tree.getMembers()) {
            holds("5: no static block in " + element, member.getKind() != Tree.Kind.BLOCK
                    || !((com.sun.source.tree.BlockTree) member).isStatic());
            if (member instanceof VariableTree) {
                fields += isConstant((VariableTree) member) ? 0 : 1;
            }
        }
        holds("11: some twenty fields in " + element, fields <= MOST_FIELDS);
        return super.visitClass(tree, none);
    }

    private boolean isConstant(VariableTree field) {
        Element element = here(field);
        if (!element.getModifiers().contains(javax.lang.model.element.Modifier.STATIC)) {
            return false;
        }
        boolean isOfEnum = element.getEnclosingElement().getKind() == ElementKind.ENUM;
        holds("5: static is final: " + field, element.getModifiers().contains(javax.lang.model.element.Modifier.FINAL));
        holds("5: the type of a static: " + field, isOfEnum || CONSTANTS.contains(String.valueOf(element.asType()))
                || isValuesOfEnum(element));
        return true;
    }

    /** Rule 12 lets a class keep an enum's values() once. */
    private boolean isValuesOfEnum(Element element) {
        if (element.asType().getKind() != TypeKind.ARRAY) {
            return false;
        }
        TypeMirror of = ((ArrayType) element.asType()).getComponentType();
        return isOwn(of) && ((DeclaredType) of).asElement().getKind() == ElementKind.ENUM
                && element.getModifiers().contains(javax.lang.model.element.Modifier.PRIVATE);
    }

    @Override
    public Void visitMethod(MethodTree tree, Void none) {
        ExecutableElement method = (ExecutableElement) here(tree);
        holds("11: parameters of " + method, method.getParameters().size() <= MOST_PARAMETERS);
        holds("11: some sixty lines of " + method, lineOf(tree, false) - lineOf(tree, true) < MOST_LINES);
        holds("3: the type of " + method, isAllowed(method.getReturnType()));
        if (method.getModifiers().contains(javax.lang.model.element.Modifier.PRIVATE)) {
            holds("1: no public name for " + method, !publicNames.contains(method.getSimpleName().toString()));
        }
        holds("6: nothing of Object: " + method,
                !Set.of("equals", "hashCode", "toString").contains(method.getSimpleName().toString()));
        calls.computeIfAbsent(method, key -> new LinkedHashSet<>());
        return super.visitMethod(tree, none);
    }

    @Override
    public Void visitMethodInvocation(MethodInvocationTree tree, Void none) {
        called((ExecutableElement) trees.getElement(getCurrentPath()));
        return super.visitMethodInvocation(tree, none);
    }

    @Override
    public Void visitNewClass(NewClassTree tree, Void none) {
        holds("2: no anonymous class, and no enum's constant with a body of its own", tree.getClassBody() == null);
        called((ExecutableElement) trees.getElement(getCurrentPath()));
        return super.visitNewClass(tree, none);
    }

    private void called(ExecutableElement method) {
        TypeElement owner = (TypeElement) method.getEnclosingElement();
        boolean own = String.valueOf(elements.getBinaryName(owner)).startsWith("WheatSea");
        String name = owner.getSimpleName() + "." + method.getSimpleName();
        holds("4: in the list of the library: " + name, own || isInLibrary(owner, method, name));
        TreePath path = getCurrentPath();
        while (path != null && !(path.getLeaf() instanceof MethodTree)) {
            path = path.getParentPath();
        }
        if (own && path != null) {
            ExecutableElement from = (ExecutableElement) trees.getElement(path);
            calls.computeIfAbsent(from, key -> new LinkedHashSet<>()).add(method);
        }
    }

    private static boolean isInLibrary(TypeElement owner, ExecutableElement method, String name) {
        boolean isOfNumbers = Set.of("Integer", "Long", "Math").contains(owner.getSimpleName().toString())
                && method.getModifiers().contains(javax.lang.model.element.Modifier.STATIC)
                && !name.endsWith("Exact") && isOverWholeNumbers(method);
        return isOfNumbers || LIBRARY.contains(name);
    }

    private static boolean isOverWholeNumbers(ExecutableElement method) {
        boolean are = !method.getParameters().isEmpty();
        for (Element parameter : method.getParameters()) {
            are &= parameter.asType().getKind() == TypeKind.INT || parameter.asType().getKind() == TypeKind.LONG;
        }
        return are;
    }

    // ---- how many calls stand open

    private void openCalls() {
        for (ExecutableElement method : List.copyOf(calls.keySet())) {
            int depth = depthOf(method, new HashSet<>());
            holds("11: " + depth + " calls open below " + method, depth <= MOST_OPEN_CALLS);
        }
    }

    /** A call of one that is open already is recursion, which rule 8 looks after and this does not. */
    private int depthOf(ExecutableElement method, Set<ExecutableElement> open) {
        if (depths.containsKey(method)) {
            return depths.get(method);
        }
        open.add(method);
        int deepest = 0;
        for (ExecutableElement next : calls.getOrDefault(method, Set.of())) {
            for (ExecutableElement meant : calls.keySet()) {
                boolean isMeant = meant.equals(next) || elements.overrides(meant, next,
                        (TypeElement) meant.getEnclosingElement());
                if (isMeant && !open.contains(meant)) {
                    deepest = Math.max(deepest, depthOf(meant, open));
                }
            }
        }
        open.remove(method);
        depths.put(method, deepest + 1);
        return deepest + 1;
    }
}
