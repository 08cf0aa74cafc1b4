import com.sun.source.tree.ArrayAccessTree;
import com.sun.source.tree.BinaryTree;
import com.sun.source.tree.ClassTree;
import com.sun.source.tree.CompilationUnitTree;
import com.sun.source.tree.CompoundAssignmentTree;
import com.sun.source.tree.ExpressionTree;
import com.sun.source.tree.ForLoopTree;
import com.sun.source.tree.IdentifierTree;
import com.sun.source.tree.LiteralTree;
import com.sun.source.tree.MemberSelectTree;
import com.sun.source.tree.MethodInvocationTree;
import com.sun.source.tree.MethodTree;
import com.sun.source.tree.NewArrayTree;
import com.sun.source.tree.NewClassTree;
import com.sun.source.tree.Tree;
import com.sun.source.tree.TypeCastTree;
import com.sun.source.tree.VariableTree;
import com.sun.source.tree.WhileLoopTree;
import com.sun.source.util.JavacTask;
import com.sun.source.util.TreePathScanner;
import com.sun.source.util.Trees;
import java.io.File;
import java.io.IOException;
import java.util.ArrayDeque;
import java.util.Deque;
import java.util.HashMap;
import java.util.HashSet;
import java.util.LinkedHashSet;
import java.util.List;
import java.util.Map;
import java.util.Set;
import javax.lang.model.element.Element;
import javax.lang.model.element.ElementKind;
import javax.lang.model.element.ExecutableElement;
import javax.lang.model.element.Modifier;
import javax.lang.model.element.TypeElement;
import javax.lang.model.element.VariableElement;
import javax.lang.model.type.ArrayType;
import javax.lang.model.type.DeclaredType;
import javax.lang.model.type.TypeMirror;
import javax.lang.model.util.ElementFilter;
import javax.tools.JavaCompiler;
import javax.tools.StandardJavaFileManager;
import javax.tools.ToolProvider;

/**
 * The file keeps to LANGUAGE.md as far as its lines tell: what is not so is told with the rule's number.
 * It is stricter than the rules where the class needs less than they allow.
 */
public final class FormTest extends TreePathScanner<Void, Void> {
    private static final int MOST_LINES = 60, MOST_PARAMETERS = 7, DEEPEST = 8, MOST_CLASSES = 12, MOST_FIELDS = 20;
    // What the class does without: rules 2, 6, 9.
    private static final Set<Tree.Kind> UNUSED = Set.of(
        Tree.Kind.LAMBDA_EXPRESSION, Tree.Kind.MEMBER_REFERENCE, Tree.Kind.TRY, Tree.Kind.THROW, Tree.Kind.ASSERT,
        Tree.Kind.SYNCHRONIZED, Tree.Kind.INSTANCE_OF, Tree.Kind.DO_WHILE_LOOP);
    private static final Set<String> NUMBERS = Set.of("java.lang.Integer", "java.lang.Long", "java.lang.Math");
    private static final Set<String> NAMES_OF_OBJECTS = Set.of("equals", "hashCode", "toString", "clone", "finalize");

    private final CompilationUnitTree file;
    private final Trees trees;
    private final Map<Element, Set<Element>> calls = new HashMap<>();
    // Of each method the fields whose length its lines look at, and those that it takes by an index.
    private final Map<Element, Set<String>> measured = new HashMap<>();
    private final Map<Element, Set<String>> indexed = new HashMap<>();
    private final Set<Element> methods = new LinkedHashSet<>();
    private final Deque<TypeElement> around = new ArrayDeque<>();
    private Element here = null;
    private int classes = 0;
    private int wrong = 0;

    private FormTest(CompilationUnitTree file, Trees trees) {
        this.file = file;
        this.trees = trees;
    }

    public static void main(String[] args) throws IOException {
        JavaCompiler compiler = ToolProvider.getSystemJavaCompiler();
        File source = new File(args.length > 0 ? args[0] : "src/main/java/BlockCells.java");
        try (StandardJavaFileManager files = compiler.getStandardFileManager(null, null, null)) {
            JavacTask task = (JavacTask) compiler.getTask(null, files, null, List.of("-proc:none"), null, files.getJavaFileObjects(source));
            CompilationUnitTree file = task.parse().iterator().next();
            task.analyze();
            FormTest form = new FormTest(file, Trees.instance(task));
            form.scan(file, null);
            form.whole();
            System.out.println(form.wrong == 0 ? form.methods.size() + " methods keep to the form" : form.wrong + " places don't");
            if (form.wrong != 0) System.exit(1);
        }
    }

    private void check(boolean isSo, int rule, String what) {
        if (isSo) return;
        wrong++;
        System.out.println("rule " + rule + ": " + what);
    }

    private Element element() {
        return trees.getElement(getCurrentPath());
    }

    private String place(Tree tree) {
        return "line " + file.getLineMap().getLineNumber(trees.getSourcePositions().getStartPosition(file, tree));
    }

    private long lines(Tree tree) {
        long first = file.getLineMap().getLineNumber(trees.getSourcePositions().getStartPosition(file, tree));
        long last = file.getLineMap().getLineNumber(trees.getSourcePositions().getEndPosition(file, tree));
        return last - first + 1;
    }

    // ---- what is told of the whole file

    private void whole() {
        check(file.getPackageName() == null && file.getImports().isEmpty(), 1, "no package, no import");
        check(file.getTypeDecls().size() == 1, 1, "one class outside");
        check(classes <= MOST_CLASSES, 11, classes + " classes");
        for (Element method : methods) {
            int deep = depth(method, new ArrayDeque<>());
            check(deep <= DEEPEST, 11, method + " goes " + deep + " deep");
            for (String array : indexed.getOrDefault(method, Set.of())) {
                check(isMeasured(method, array), 7, method + " looks at the length of " + array);
            }
        }
    }

    /** How many calls stand open at once, this one and the library's, too. */
    private int depth(Element method, Deque<Element> open) {
        if (open.contains(method)) {
            check(false, 8, method + " calls itself");
            return 0;
        }
        open.push(method);
        int deepest = 0;
        for (Element called : calls.getOrDefault(method, Set.of())) deepest = Math.max(deepest, depth(called, open));
        open.pop();
        return deepest + 1;
    }

    /** By its own lines or those of a method that it calls. */
    private boolean isMeasured(Element method, String array) {
        if (measured.getOrDefault(method, Set.of()).contains(array)) return true;
        for (Element called : calls.getOrDefault(method, Set.of())) {
            if (called.getEnclosingElement().equals(method.getEnclosingElement())
                && measured.getOrDefault(called, Set.of()).contains(array)) return true;
        }
        return false;
    }

    // ---- classes, methods, fields

    @Override
    public Void visitClass(ClassTree tree, Void none) {
        TypeElement type = (TypeElement) element();
        classes++;
        check(type.getNestingKind().isNested() || type.getSimpleName().contentEquals("BlockCells"), 1, type + " is the document's");
        check(type.getEnclosingElement().getKind() != ElementKind.METHOD, 2, type + " is in no method");
        check(type.getTypeParameters().isEmpty() && type.getKind() == ElementKind.CLASS, 2, type + " is a plain class");
        int fields = 0;
        for (VariableElement field : ElementFilter.fieldsIn(type.getEnclosedElements())) {
            boolean isStatic = field.getModifiers().contains(Modifier.STATIC);
            if (!isStatic) fields++;
            check(!isStatic || field.getConstantValue() != null, 5, field + " of " + type + " is a constant");
        }
        check(fields <= MOST_FIELDS, 11, type + " has " + fields + " fields");
        around.push(type);
        super.visitClass(tree, none);
        around.pop();
        return null;
    }

    @Override
    public Void visitMethod(MethodTree tree, Void none) {
        ExecutableElement method = (ExecutableElement) element();
        here = method;
        methods.add(method);
        check(isPlain(method.getReturnType()), 3, method + " answers a plain type");
        check(!NAMES_OF_OBJECTS.contains(method.getSimpleName().toString()), 6, method + " isn't every object's");
        check(tree.getThrows().isEmpty(), 6, method + " throws nothing");
        check(tree.getParameters().size() <= MOST_PARAMETERS, 11, method + " takes " + tree.getParameters().size());
        check(lines(tree) <= MOST_LINES, 11, method + " has " + lines(tree) + " lines");
        super.visitMethod(tree, none);
        here = null;
        return null;
    }

    @Override
    public Void visitVariable(VariableTree tree, Void none) {
        check(isPlain(element().asType()), 3, place(tree) + ", " + tree.getName() + " is of a plain type");
        return super.visitVariable(tree, none);
    }

    /** A number, a boolean, a class of the file, void, or an array of one dimension. */
    private static boolean isPlain(TypeMirror type) {
        switch (type.getKind()) {
            case INT: case LONG: case BOOLEAN: case VOID: return true;
            case ARRAY: return ((ArrayType) type).getComponentType().getKind() != type.getKind() && isPlain(((ArrayType) type).getComponentType());
            case DECLARED: return isOwn(((DeclaredType) type).asElement());
            default: return false;
        }
    }

    private static boolean isOwn(Element one) {
        for (Element outer = one; outer != null; outer = outer.getEnclosingElement()) {
            if (outer.getSimpleName().contentEquals("BlockCells")) return true;
        }
        return false;
    }

    // ---- calls and what is made

    /** What stands in a field's initialiser is done by each constructor of the class. */
    private void calls(Element called) {
        if (here != null) {
            calls.computeIfAbsent(here, one -> new LinkedHashSet<>()).add(called);
            return;
        }
        for (Element made : ElementFilter.constructorsIn(around.peek().getEnclosedElements())) {
            calls.computeIfAbsent(made, one -> new LinkedHashSet<>()).add(called);
        }
    }

    @Override
    public Void visitMethodInvocation(MethodInvocationTree tree, Void none) {
        ExecutableElement called = (ExecutableElement) element();
        if (called.getKind() == ElementKind.METHOD) {
            check(isOwn(called) || isOfNumbers(called), 4, place(tree) + ", " + called + " is allowed");
            calls(called);
        }
        return super.visitMethodInvocation(tree, none);
    }

    private static boolean isOfNumbers(ExecutableElement called) {
        boolean isPlain = isPlain(called.getReturnType());
        for (VariableElement each : called.getParameters()) isPlain &= isPlain(each.asType());
        return isPlain && called.getModifiers().contains(Modifier.STATIC) && !called.getSimpleName().toString().endsWith("Exact")
            && NUMBERS.contains(called.getEnclosingElement().toString());
    }

    @Override
    public Void visitNewClass(NewClassTree tree, Void none) {
        check(tree.getClassBody() == null, 2, place(tree) + " makes no class without a name");
        check(isOwn(element()), 4, place(tree) + " makes an object of its own");
        calls(element());
        made(tree);
        return super.visitNewClass(tree, none);
    }

    @Override
    public Void visitNewArray(NewArrayTree tree, Void none) {
        made(tree);
        return super.visitNewArray(tree, none);
    }

    private void made(Tree tree) {
        check(here == null || here.getKind() == ElementKind.CONSTRUCTOR, 12, place(tree) + " makes it with the object, not by a call");
    }

    // ---- what could throw or not end

    @Override
    public Void visitMemberSelect(MemberSelectTree tree, Void none) {
        if (tree.getIdentifier().contentEquals("length")) noted(measured, tree.getExpression());
        return super.visitMemberSelect(tree, none);
    }

    @Override
    public Void visitArrayAccess(ArrayAccessTree tree, Void none) {
        noted(indexed, tree.getExpression());
        return super.visitArrayAccess(tree, none);
    }

    private void noted(Map<Element, Set<String>> notes, ExpressionTree array) {
        check(array instanceof IdentifierTree, 7, place(array) + ", " + array + " is a plain name");
        if (here != null) notes.computeIfAbsent(here, one -> new HashSet<>()).add(array.toString());
    }

    @Override
    public Void visitBinary(BinaryTree tree, Void none) {
        operated(tree, tree.getKind(), tree.getRightOperand());
        return super.visitBinary(tree, none);
    }

    @Override
    public Void visitCompoundAssignment(CompoundAssignmentTree tree, Void none) {
        operated(tree, tree.getKind(), tree.getExpression());
        return super.visitCompoundAssignment(tree, none);
    }

    private void operated(Tree tree, Tree.Kind kind, ExpressionTree right) {
        check(isPlain(trees.getTypeMirror(getCurrentPath())), 10, place(tree) + " joins no texts");
        if (!List.of(Tree.Kind.DIVIDE, Tree.Kind.REMAINDER, Tree.Kind.DIVIDE_ASSIGNMENT, Tree.Kind.REMAINDER_ASSIGNMENT).contains(kind)) return;
        boolean isNever0 = right instanceof LiteralTree && !((LiteralTree) right).getValue().equals(0);
        check(isNever0, 7, place(tree) + " divides by a number that is told");
    }

    @Override
    public Void visitTypeCast(TypeCastTree tree, Void none) {
        check(tree.getType().getKind() == Tree.Kind.PRIMITIVE_TYPE, 7, place(tree) + " casts to a number");
        return super.visitTypeCast(tree, none);
    }

    @Override
    public Void visitForLoop(ForLoopTree tree, Void none) {
        check(tree.getCondition() != null && !tree.getUpdate().isEmpty(), 9, place(tree) + " has a bound and a step");
        return super.visitForLoop(tree, none);
    }

    @Override
    public Void visitWhileLoop(WhileLoopTree tree, Void none) {
        check(!tree.getCondition().toString().equals("(true)"), 9, place(tree) + " has a bound");
        return super.visitWhileLoop(tree, none);
    }

    @Override
    public Void scan(Tree tree, Void none) {
        if (tree != null) check(!UNUSED.contains(tree.getKind()), 6, place(tree) + ", " + tree.getKind() + " isn't used");
        return super.scan(tree, none);
    }
}
