import com.sun.source.tree.ArrayAccessTree;
import com.sun.source.tree.AssertTree;
import com.sun.source.tree.AssignmentTree;
import com.sun.source.tree.BinaryTree;
import com.sun.source.tree.BlockTree;
import com.sun.source.tree.ClassTree;
import com.sun.source.tree.CompilationUnitTree;
import com.sun.source.tree.CompoundAssignmentTree;
import com.sun.source.tree.ImportTree;
import com.sun.source.tree.LambdaExpressionTree;
import com.sun.source.tree.LiteralTree;
import com.sun.source.tree.MemberReferenceTree;
import com.sun.source.tree.MemberSelectTree;
import com.sun.source.tree.MethodInvocationTree;
import com.sun.source.tree.MethodTree;
import com.sun.source.tree.NewClassTree;
import com.sun.source.tree.SynchronizedTree;
import com.sun.source.tree.ThrowTree;
import com.sun.source.tree.Tree;
import com.sun.source.tree.TryTree;
import com.sun.source.tree.TypeCastTree;
import com.sun.source.tree.VariableTree;
import com.sun.source.util.JavacTask;
import com.sun.source.util.TreePath;
import com.sun.source.util.TreePathScanner;
import com.sun.source.util.Trees;
import java.io.File;
import java.util.ArrayList;
import java.util.HashMap;
import java.util.LinkedHashSet;
import java.util.List;
import java.util.Map;
import java.util.Set;
import javax.lang.model.element.Element;
import javax.lang.model.element.ElementKind;
import javax.lang.model.element.Modifier;
import javax.lang.model.element.TypeElement;
import javax.lang.model.element.VariableElement;
import javax.lang.model.type.TypeKind;
import javax.lang.model.type.TypeMirror;
import javax.tools.JavaCompiler;
import javax.tools.StandardJavaFileManager;
import javax.tools.ToolProvider;

/** Rules of ../shared/LANGUAGE.md that can be read off the source; the number before a complaint is the rule's. */
public final class LanguageTest extends TreePathScanner<Void, Void> {
    private static final Checks CHECKS = new Checks();
    private static final Set<String> LIBRARY = Set.of(
        "java.lang.String.length", "java.lang.String.charAt", "java.lang.String.isEmpty", "java.lang.String.equals",
        "java.lang.String.indexOf", "java.lang.String.substring", "java.lang.String.toCharArray",
        "java.lang.Math.max", "java.lang.Math.min", "java.lang.Math.abs", "java.lang.Math.floorMod",
        "java.lang.Math.floorDiv", "java.lang.Integer.bitCount", "java.lang.Integer.compare",
        "java.lang.Long.compare", "java.lang.System.arraycopy");
    private static final Set<String> EXCEPTIONS = Set.of("IllegalStateException", "IllegalArgumentException",
        "IndexOutOfBoundsException", "ArithmeticException", "UnsupportedOperationException",
        "NoSuchElementException", "RuntimeException");
    private static final Set<String> TYPES = Set.of("int", "long", "short", "byte", "char", "boolean", "double",
        "float", "String");
    private static final int MOST_LINES = 60;
    private static final int DEEPEST = 8;

    private final Trees trees;
    private final CompilationUnitTree unit;
    private final List<String> complaints = new ArrayList<>();
    private final Map<Element, Set<Element>> calls = new HashMap<>();
    private int classes;

    private LanguageTest(Trees trees, CompilationUnitTree unit) {
        this.trees = trees;
        this.unit = unit;
    }

    public static void main(String[] args) throws Exception {
        JavaCompiler compiler = ToolProvider.getSystemJavaCompiler();
        StandardJavaFileManager files = compiler.getStandardFileManager(null, null, null);
        JavacTask task = (JavacTask) compiler.getTask(null, files, null, List.of("-proc:none"), null,
            files.getJavaFileObjects(new File("src/main/java/OddChoir.java")));
        CompilationUnitTree unit = task.parse().iterator().next();
        task.analyze();
        LanguageTest rules = new LanguageTest(Trees.instance(task), unit);
        rules.scan(unit, null);
        rules.limits();
        CHECKS.compare("what is outside the rules", List.of(), rules.complaints);
        CHECKS.close();
    }

    private void complain(int rule, String what, Tree where) {
        long position = trees.getSourcePositions().getStartPosition(unit, where);
        complaints.add("rule " + rule + ", line " + unit.getLineMap().getLineNumber(position) + ": " + what);
    }

    private void limits() {
        if (classes > 12) {
            complaints.add("rule 11: " + classes + " classes");
        }
        for (Element method : calls.keySet()) {
            if (calls.get(method).contains(method) && !method.getModifiers().contains(Modifier.PRIVATE)) {
                complaints.add("rule 8: " + method + " calls itself");
            }
            int deep = deep(method, new LinkedHashSet<>());
            if (method.getModifiers().contains(Modifier.PUBLIC) && deep > DEEPEST) {
                complaints.add("rule 11: " + method + " goes " + deep + " deep");
            }
        }
    }

    private int deep(Element method, Set<Element> open) {
        if (!open.add(method)) {
            return 0;
        }
        int deepest = 0;
        for (Element called : calls.getOrDefault(method, Set.of())) {
            deepest = Math.max(deepest, deep(called, open));
        }
        open.remove(method);
        return deepest + 1;
    }

    @Override
    public Void visitImport(ImportTree tree, Void none) {
        complain(4, "an import", tree);
        return super.visitImport(tree, none);
    }

    @Override
    public Void visitClass(ClassTree tree, Void none) {
        classes++;
        boolean outer = getCurrentPath().getParentPath().getLeaf() == unit;
        if (!outer && !tree.getModifiers().getFlags().contains(Modifier.STATIC)) {
            complain(2, "a class inside that is not static", tree);
        }
        if (!outer && tree.getModifiers().getFlags().contains(Modifier.PUBLIC)) {
            complain(1, "a public class inside", tree);
        }
        int fields = 0;
        for (Tree member : tree.getMembers()) {
            if (member instanceof BlockTree) {
                complain(5, "an initialiser block", member);
            }
            if (member instanceof VariableTree field && !field.getModifiers().getFlags().contains(Modifier.STATIC)) {
                fields++;
            }
        }
        if (fields > 20) {
            complain(11, fields + " fields", tree);
        }
        return super.visitClass(tree, none);
    }

    @Override
    public Void visitVariable(VariableTree tree, Void none) {
        Set<Modifier> flags = tree.getModifiers().getFlags();
        if (flags.contains(Modifier.STATIC)) {
            Set<String> types = Set.of("int", "long", "boolean", "char", "String", "int[]", "long[]", "char[]",
                "byte[]");
            if (!flags.contains(Modifier.FINAL) || !types.contains(tree.getType().toString())) {
                complain(5, "a static field " + tree.getName(), tree);
            }
        }
        TypeMirror type = trees.getTypeMirror(getCurrentPath());
        String bare = tree.getType().toString().replace("[]", "");
        if (!TYPES.contains(bare) && !type.toString().startsWith("OddChoir")) {
            complain(3, tree.getName() + " is a " + type, tree);
        }
        return super.visitVariable(tree, none);
    }

    @Override
    public Void visitMethod(MethodTree tree, Void none) {
        Element method = trees.getElement(getCurrentPath());
        calls.computeIfAbsent(method, m -> new LinkedHashSet<>());
        long lines = line(trees.getSourcePositions().getEndPosition(unit, tree))
            - line(trees.getSourcePositions().getStartPosition(unit, tree)) + 1;
        if (lines > MOST_LINES) {
            complain(11, tree.getName() + " has " + lines + " lines", tree);
        }
        if (tree.getParameters().size() > 7) {
            complain(11, tree.getName() + " has too many parameters", tree);
        }
        if (Set.of("equals", "hashCode", "toString", "finalize").contains(tree.getName().toString())) {
            complain(10, tree.getName() + " is written", tree);
        }
        if (!method.getModifiers().contains(Modifier.PUBLIC) && faceNames().contains(tree.getName().toString())) {
            complain(1, tree.getName() + " bears the name of a public one", tree);
        }
        return super.visitMethod(tree, none);
    }

    private long line(long position) {
        return unit.getLineMap().getLineNumber(position);
    }

    private Set<String> faceNames() {
        Set<String> names = new LinkedHashSet<>();
        TypeElement outer = (TypeElement) trees.getElement(new TreePath(new TreePath(unit),
            unit.getTypeDecls().get(0)));
        for (Element member : outer.getEnclosedElements()) {
            if (member.getKind() == ElementKind.METHOD && member.getModifiers().contains(Modifier.PUBLIC)) {
                names.add(member.getSimpleName().toString());
            }
        }
        return names;
    }

    @Override
    public Void visitMethodInvocation(MethodInvocationTree tree, Void none) {
        Element called = trees.getElement(new TreePath(getCurrentPath(), tree.getMethodSelect()));
        String owner = called.getEnclosingElement().toString();
        boolean own = owner.startsWith("OddChoir");
        boolean superCall = called.getKind() == ElementKind.CONSTRUCTOR;
        if (!own && !superCall && !LIBRARY.contains(owner + "." + called.getSimpleName())) {
            complain(4, owner + "." + called.getSimpleName(), tree);
        }
        if (called.getSimpleName().contentEquals("charAt")) {
            needLook(tree);
        }
        for (TreePath path = getCurrentPath(); path != null; path = path.getParentPath()) {
            if (path.getLeaf() instanceof MethodTree && !superCall) {
                Element caller = trees.getElement(path);
                calls.computeIfAbsent(caller, m -> new LinkedHashSet<>()).add(called);
            }
        }
        return super.visitMethodInvocation(tree, none);
    }

    private void needLook(MethodInvocationTree charAt) {
        String text = ((MemberSelectTree) charAt.getMethodSelect()).getExpression().toString();
        String index = charAt.getArguments().get(0).toString();
        String method = methodAround().toString();
        boolean inside = method.contains(index + " >= 0 && " + index + " < " + text + ".length()");
        boolean outside = method.contains(index + " < 0 || " + index + " >= " + text + ".length()");
        if (!inside && !outside) {
            complain(7, charAt + " without a look at the index", charAt);
        }
    }

    @Override
    public Void visitNewClass(NewClassTree tree, Void none) {
        String made = tree.getIdentifier().toString();
        Element type = trees.getElement(new TreePath(getCurrentPath(), tree.getIdentifier()));
        boolean thrown = getCurrentPath().getParentPath().getLeaf() instanceof ThrowTree;
        if (!(thrown && EXCEPTIONS.contains(made)) && !type.toString().startsWith("OddChoir")) {
            complain(4, "new " + made, tree);
        }
        if (tree.getClassBody() != null) {
            complain(2, "an anonymous class", tree);
        }
        return super.visitNewClass(tree, none);
    }

    @Override
    public Void visitThrow(ThrowTree tree, Void none) {
        if (!(tree.getExpression() instanceof NewClassTree)) {
            complain(6, "a throw of something that is not new", tree);
        }
        if (methodAround().getReturnType() == null) {
            complain(6, "a throw in a constructor", tree);
        }
        return super.visitThrow(tree, none);
    }

    private MethodTree methodAround() {
        TreePath path = getCurrentPath();
        while (!(path.getLeaf() instanceof MethodTree)) {
            path = path.getParentPath();
        }
        return (MethodTree) path.getLeaf();
    }

    /** An index is looked at in the method that uses it: it is compared there with the length of the same array. */
    @Override
    public Void visitArrayAccess(ArrayAccessTree tree, Void none) {
        String method = methodAround().toString();
        String looked = tree.getIndex() + " < " + tree.getExpression() + ".length";
        String notBelow = tree.getIndex() + " >= 0";
        String counted = "int " + tree.getIndex() + " = 0";
        if (!method.contains(looked) || !method.contains(notBelow) && !method.contains(counted)) {
            complain(7, tree + " without a look at the index", tree);
        }
        return super.visitArrayAccess(tree, none);
    }

    private void needDivisor(Tree operation, Tree divisor) {
        if (!operation.getKind().toString().matches("(DIVIDE|REMAINDER).*")) {
            return;
        }
        TreePath path = new TreePath(getCurrentPath(), divisor);
        TypeMirror type = trees.getTypeMirror(path);
        Element named = trees.getElement(path);
        Object value = divisor instanceof LiteralTree literal ? literal.getValue()
            : named instanceof VariableElement constant ? constant.getConstantValue() : null;
        boolean whole = type.getKind() != TypeKind.DOUBLE && type.getKind() != TypeKind.FLOAT;
        if (whole && !(value instanceof Integer number && number != 0)) {
            complain(7, operation + " by what may be 0", operation);
        }
    }

    @Override
    public Void visitCompoundAssignment(CompoundAssignmentTree tree, Void none) {
        needDivisor(tree, tree.getExpression());
        return super.visitCompoundAssignment(tree, none);
    }

    @Override
    public Void visitTypeCast(TypeCastTree tree, Void none) {
        if (!trees.getTypeMirror(getCurrentPath()).getKind().isPrimitive()) {
            complain(6, "a cast of an object: " + tree, tree);
        }
        return super.visitTypeCast(tree, none);
    }

    @Override
    public Void visitLiteral(LiteralTree tree, Void none) {
        if (tree.getValue() instanceof String text && !text.chars().allMatch(code -> code >= 1 && code <= 127)) {
            complain(4, "a sign in " + tree, tree);
        }
        return super.visitLiteral(tree, none);
    }

    @Override
    public Void visitBinary(BinaryTree tree, Void none) {
        needDivisor(tree, tree.getRightOperand());
        for (Tree side : List.of(tree.getLeftOperand(), tree.getRightOperand())) {
            TypeMirror type = trees.getTypeMirror(new TreePath(getCurrentPath(), side));
            if (type != null && type.toString().equals("java.lang.String")) {
                complain(10, tree.getKind() + " on a String", tree);
            }
        }
        return super.visitBinary(tree, none);
    }

    @Override
    public Void visitTry(TryTree tree, Void none) {
        complain(6, "a try", tree);
        return super.visitTry(tree, none);
    }

    @Override
    public Void visitSynchronized(SynchronizedTree tree, Void none) {
        complain(6, "synchronized", tree);
        return super.visitSynchronized(tree, none);
    }

    @Override
    public Void visitAssert(AssertTree tree, Void none) {
        complain(6, "assert", tree);
        return super.visitAssert(tree, none);
    }

    @Override
    public Void visitLambdaExpression(LambdaExpressionTree tree, Void none) {
        complain(2, "a lambda", tree);
        return super.visitLambdaExpression(tree, none);
    }

    @Override
    public Void visitMemberReference(MemberReferenceTree tree, Void none) {
        complain(2, "a method reference", tree);
        return super.visitMemberReference(tree, none);
    }

    @Override
    public Void visitAssignment(AssignmentTree tree, Void none) {
        Element target = trees.getElement(new TreePath(getCurrentPath(), tree.getVariable()));
        if (target != null && target.getKind() == ElementKind.FIELD
                && target.getModifiers().contains(Modifier.STATIC)) {
            complain(5, "a static field is changed", tree);
        }
        return super.visitAssignment(tree, none);
    }
}
