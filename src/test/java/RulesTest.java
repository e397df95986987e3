import com.sun.source.tree.AssertTree;
import com.sun.source.tree.BinaryTree;
import com.sun.source.tree.ClassTree;
import com.sun.source.tree.CompilationUnitTree;
import com.sun.source.tree.CompoundAssignmentTree;
import com.sun.source.tree.DoWhileLoopTree;
import com.sun.source.tree.ForLoopTree;
import com.sun.source.tree.IdentifierTree;
import com.sun.source.tree.LambdaExpressionTree;
import com.sun.source.tree.LiteralTree;
import com.sun.source.tree.MemberReferenceTree;
import com.sun.source.tree.MemberSelectTree;
import com.sun.source.tree.MethodInvocationTree;
import com.sun.source.tree.MethodTree;
import com.sun.source.tree.NewArrayTree;
import com.sun.source.tree.NewClassTree;
import com.sun.source.tree.SynchronizedTree;
import com.sun.source.tree.ThrowTree;
import com.sun.source.tree.Tree;
import com.sun.source.tree.TryTree;
import com.sun.source.tree.TypeCastTree;
import com.sun.source.tree.VariableTree;
import com.sun.source.tree.WhileLoopTree;
import com.sun.source.util.JavacTask;
import com.sun.source.util.TreePath;
import com.sun.source.util.TreePathScanner;
import com.sun.source.util.Trees;
import java.io.IOException;
import java.util.ArrayDeque;
import java.util.ArrayList;
import java.util.Deque;
import java.util.HashMap;
import java.util.List;
import java.util.Map;
import java.util.Set;
import javax.lang.model.element.Element;
import javax.lang.model.element.ElementKind;
import javax.lang.model.element.ExecutableElement;
import javax.lang.model.element.Modifier;
import javax.lang.model.element.TypeElement;
import javax.lang.model.element.VariableElement;
import javax.lang.model.type.ArrayType;
import javax.lang.model.type.DeclaredType;
import javax.lang.model.type.TypeKind;
import javax.lang.model.type.TypeMirror;
import javax.lang.model.util.ElementFilter;
import javax.tools.JavaCompiler;
import javax.tools.StandardJavaFileManager;
import javax.tools.ToolProvider;

/** The rules of LANGUAGE.md, looked up in the tree that the compiler makes of the source. */
public final class RulesTest {
    private static final String FACE = "ButlerRemembers";
    // Of the library that rule 4 leaves, what the class has need of: more is put here when more is used.
    private static final Set<String> LIBRARY = Set.of(
        "java.lang.String.length", "java.lang.String.charAt", "java.lang.String.indexOf", "java.lang.Integer.bitCount",
        "java.lang.Math.min", "java.lang.Math.max", "java.lang.System.arraycopy", "java.util.Arrays.fill",
        "java.lang.Object.<init>");
    private static final Set<String> LIBRARY_CLASSES = Set.of("String", "Integer", "Long", "Math", "System", "Arrays");
    // The length of an array, and NO as the document writes it.
    private static final Set<String> LIBRARY_FIELDS = Set.of("length", "MIN_VALUE");
    private static final int LINE_LIMIT = 60, PARAMETER_LIMIT = 7, CLASS_LIMIT = 12, FIELD_LIMIT = 20, DEPTH_LIMIT = 8;

    private static int looked = 0;
    private static int wrong = 0;

    private static void due(int rule, String what, boolean is) {
        looked++;
        if (!is) {
            wrong++;
            System.out.println("rule " + rule + " is broken: " + what);
        }
    }

    public static void main(String[] args) throws IOException {
        String path = System.getProperty("source", "src/main/java/ButlerRemembers.java");
        JavaCompiler compiler = ToolProvider.getSystemJavaCompiler();
        try (StandardJavaFileManager files = compiler.getStandardFileManager(null, null, null)) {
            JavacTask task = (JavacTask) compiler.getTask(
                null, files, null, List.of("--release", "17", "-proc:none"), null, files.getJavaFileObjects(path));
            Look look = new Look(Trees.instance(task));
            for (CompilationUnitTree unit : task.parse()) {
                task.analyze();
                due(1, "no package line", unit.getPackage() == null);
                look.scan(unit, null);
            }
            look.sizes();
            new Depths(look).look();
        }
        System.out.println(wrong == 0 ? looked + " looks found the rules kept" : wrong + " looks found a rule broken");
        if (wrong != 0) {
            System.exit(1);
        }
    }

    /** A call as it is written: to whom, and whether by super, or of another object than the caller's own. */
    private record Call(ExecutableElement to, boolean bySuper, boolean ofAnother) {
    }

    private static boolean isOwn(Element e) {
        Element top = e;
        while (top.getEnclosingElement() != null && top.getEnclosingElement().getKind() != ElementKind.PACKAGE) {
            top = top.getEnclosingElement();
        }
        return top.getSimpleName().contentEquals(FACE);
    }

    private static boolean isOwn(TypeMirror type) {
        return type.getKind() == TypeKind.DECLARED && isOwn(((DeclaredType) type).asElement());
    }

    private static boolean isText(TypeMirror type) {
        return type != null && type.toString().equals("java.lang.String");
    }

    private static boolean isNumber(TypeMirror type) {
        return Set.of(TypeKind.INT, TypeKind.LONG, TypeKind.SHORT, TypeKind.BYTE, TypeKind.CHAR).contains(type.getKind());
    }

    private static boolean isAllowed(TypeMirror type) {
        if (type.getKind() == TypeKind.ARRAY) {
            TypeMirror of = ((ArrayType) type).getComponentType();
            boolean table = of.getKind() == TypeKind.ARRAY && isNumber(((ArrayType) of).getComponentType());
            return table || isNumber(of) || of.getKind() == TypeKind.BOOLEAN || isOwn(of);
        }
        return isNumber(type) || type.getKind() == TypeKind.BOOLEAN || type.getKind() == TypeKind.VOID
            || isText(type) || isOwn(type);
    }

    /** Looks at each part of the source by itself, and gathers who calls whom. */
    private static final class Look extends TreePathScanner<Void, Void> {
        final Map<ExecutableElement, List<Call>> calls = new HashMap<>();
        final List<TypeElement> classes = new ArrayList<>();
        private final Trees trees;
        private ExecutableElement method = null;

        Look(Trees trees) {
            this.trees = trees;
        }

        private Element element() {
            return trees.getElement(getCurrentPath());
        }

        private TypeMirror typeOf(Tree tree) {
            return trees.getTypeMirror(new TreePath(getCurrentPath(), tree));
        }

        private String where(Tree tree) {
            CompilationUnitTree unit = getCurrentPath().getCompilationUnit();
            long at = trees.getSourcePositions().getStartPosition(unit, tree);
            return "line " + unit.getLineMap().getLineNumber(at) + ": " + tree.toString().split("\n")[0];
        }

        private void refuse(int rule, Tree tree) {
            due(rule, where(tree), false);
        }

        private boolean isMaking() {
            return method == null || method.getKind() == ElementKind.CONSTRUCTOR;
        }

        void sizes() {
            due(11, classes.size() + " classes", classes.size() <= CLASS_LIMIT);
            for (TypeElement c : classes) {
                int fields = 0;
                for (VariableElement f : ElementFilter.fieldsIn(c.getEnclosedElements())) {
                    fields += f.getModifiers().contains(Modifier.STATIC) ? 0 : 1;
                }
                due(11, c + " has " + fields + " fields", fields <= FIELD_LIMIT);
            }
        }

        @Override
        public Void visitClass(ClassTree tree, Void none) {
            TypeElement c = (TypeElement) element();
            boolean face = c.getSimpleName().contentEquals(FACE);
            Set<Modifier> is = c.getModifiers();
            classes.add(c);
            due(1, c + " is public and final", !face || is.contains(Modifier.PUBLIC) && is.contains(Modifier.FINAL));
            due(2, c + " stands in the class and is static",
                face || c.getEnclosingElement().getSimpleName().contentEquals(FACE) && is.contains(Modifier.STATIC));
            due(1, c + " is private or package-visible",
                face || !is.contains(Modifier.PUBLIC) && !is.contains(Modifier.PROTECTED));
            for (Tree member : tree.getMembers()) {
                due(5, where(member) + ": an initialiser block", member.getKind() != Tree.Kind.BLOCK);
            }
            return super.visitClass(tree, none);
        }

        @Override
        public Void visitMethod(MethodTree tree, Void none) {
            method = (ExecutableElement) element();
            calls.put(method, new ArrayList<>());
            due(11, method + " has at most seven parameters", method.getParameters().size() <= PARAMETER_LIMIT);
            due(3, method + " answers what it may", isAllowed(method.getReturnType()));
            due(6, method + " throws nothing", method.getThrownTypes().isEmpty());
            CompilationUnitTree unit = getCurrentPath().getCompilationUnit();
            long from = unit.getLineMap().getLineNumber(Math.max(0, trees.getSourcePositions().getStartPosition(unit, tree)));
            long to = unit.getLineMap().getLineNumber(Math.max(0, trees.getSourcePositions().getEndPosition(unit, tree)));
            due(11, method + " is short", to - from < LINE_LIMIT);
            super.visitMethod(tree, none);
            method = null;
            return null;
        }

        @Override
        public Void visitVariable(VariableTree tree, Void none) {
            Element e = element();
            due(3, where(tree) + ": its type", isAllowed(e.asType()));
            if (e.getModifiers().contains(Modifier.STATIC)) {
                boolean constant = ((VariableElement) e).getConstantValue() != null;
                due(5, where(tree) + ": a static field is a constant", constant && e.getModifiers().contains(Modifier.FINAL));
            }
            return super.visitVariable(tree, none);
        }

        @Override
        public Void visitMethodInvocation(MethodInvocationTree tree, Void none) {
            ExecutableElement to = (ExecutableElement) element();
            Tree select = tree.getMethodSelect();
            boolean named = select instanceof MemberSelectTree;
            boolean bySuper = named && ((MemberSelectTree) select).getExpression().toString().equals("super");
            if (!isOwn(to)) {
                due(4, where(tree), LIBRARY.contains(to.getEnclosingElement() + "." + to.getSimpleName()));
            } else if (method != null) {
                calls.get(method).add(new Call(to, bySuper, named && !bySuper));
            }
            return super.visitMethodInvocation(tree, none);
        }

        @Override
        public Void visitNewClass(NewClassTree tree, Void none) {
            due(2, where(tree) + ": a class of its own", tree.getClassBody() == null);
            due(4, where(tree) + ": what is made", isOwn(typeOf(tree.getIdentifier())));
            due(12, where(tree) + ": made behind the constructor", isMaking());
            return super.visitNewClass(tree, none);
        }

        @Override
        public Void visitNewArray(NewArrayTree tree, Void none) {
            due(12, where(tree) + ": made behind the constructor", isMaking());
            return super.visitNewArray(tree, none);
        }

        @Override
        public Void visitBinary(BinaryTree tree, Void none) {
            boolean texts = isText(typeOf(tree.getLeftOperand())) || isText(typeOf(tree.getRightOperand()));
            due(10, where(tree) + ": texts are joined or compared by a sign", !texts);
            if (tree.getKind() == Tree.Kind.DIVIDE || tree.getKind() == Tree.Kind.REMAINDER) {
                due(7, where(tree) + ": the divisor", isSafeDivisor(tree.getRightOperand()));
            }
            return super.visitBinary(tree, none);
        }

        /** A constant that is not 0; the one divisor that is none is looked at where it stands. */
        private boolean isSafeDivisor(Tree tree) {
            if (tree instanceof LiteralTree literal) {
                return !literal.getValue().equals(0);
            }
            Element e = trees.getElement(new TreePath(getCurrentPath(), tree));
            Object constant = e instanceof VariableElement v ? v.getConstantValue() : null;
            boolean looksAt = method.getSimpleName().contentEquals("partOfFraction") && tree.toString().equals("divisor");
            return constant instanceof Integer i ? i != 0 : looksAt;
        }

        @Override
        public Void visitCompoundAssignment(CompoundAssignmentTree tree, Void none) {
            due(10, where(tree) + ": texts are joined by a sign", !isText(typeOf(tree.getVariable())));
            boolean divides = tree.getKind() == Tree.Kind.DIVIDE_ASSIGNMENT || tree.getKind() == Tree.Kind.REMAINDER_ASSIGNMENT;
            due(7, where(tree) + ": the divisor", !divides);
            return super.visitCompoundAssignment(tree, none);
        }

        @Override
        public Void visitTypeCast(TypeCastTree tree, Void none) {
            due(6, where(tree) + ": casts are of numbers", isNumber(typeOf(tree.getType())));
            return super.visitTypeCast(tree, none);
        }

        @Override
        public Void visitLiteral(LiteralTree tree, Void none) {
            Object value = tree.getValue();
            due(3, where(tree), !(value instanceof Double) && !(value instanceof Float));
            if (value instanceof String || value instanceof Character) {
                due(4, where(tree) + ": its signs", value.toString().chars().allMatch(c -> c >= 1 && c <= 127));
            }
            return super.visitLiteral(tree, none);
        }

        @Override
        public Void visitIdentifier(IdentifierTree tree, Void none) {
            Element e = element();
            boolean library = e instanceof TypeElement && !isOwn(e);
            due(4, where(tree), !library || LIBRARY_CLASSES.contains(tree.toString()));
            return super.visitIdentifier(tree, none);
        }

        @Override
        public Void visitMemberSelect(MemberSelectTree tree, Void none) {
            Element e = element();
            boolean field = e != null && e.getKind() == ElementKind.FIELD;
            due(4, where(tree) + ": a field of the library", !field || isOwn(e) || LIBRARY_FIELDS.contains(e.toString()));
            return super.visitMemberSelect(tree, none);
        }

        @Override
        public Void visitForLoop(ForLoopTree tree, Void none) {
            boolean counts = tree.getInitializer().size() == 1 && tree.getUpdate().size() == 1 && tree.getCondition() != null;
            due(9, where(tree) + ": no counter", counts);
            if (counts && tree.getInitializer().get(0) instanceof VariableTree counter) {
                String name = counter.getName().toString();
                due(9, where(tree) + ": no bound", tree.getCondition().toString().matches(".*\\b" + name + " (<|<=|>=) .*"));
                due(9, where(tree) + ": no step", tree.getUpdate().get(0).toString().matches(name + "(\\+\\+|--);"));
            }
            return super.visitForLoop(tree, none);
        }

        @Override
        public Void visitWhileLoop(WhileLoopTree tree, Void none) {
            boolean counts = tree.getCondition().toString().startsWith("(divisor > 1 && ");
            due(9, where(tree) + ": its end", counts && tree.getStatement().toString().contains("divisor--;"));
            return super.visitWhileLoop(tree, none);
        }

        @Override
        public Void visitDoWhileLoop(DoWhileLoopTree tree, Void none) {
            refuse(9, tree);
            return null;
        }

        @Override
        public Void visitLambdaExpression(LambdaExpressionTree tree, Void none) {
            refuse(2, tree);
            return null;
        }

        @Override
        public Void visitMemberReference(MemberReferenceTree tree, Void none) {
            refuse(2, tree);
            return null;
        }

        @Override
        public Void visitThrow(ThrowTree tree, Void none) {
            refuse(6, tree);
            return null;
        }

        @Override
        public Void visitTry(TryTree tree, Void none) {
            refuse(6, tree);
            return null;
        }

        @Override
        public Void visitSynchronized(SynchronizedTree tree, Void none) {
            refuse(6, tree);
            return null;
        }

        @Override
        public Void visitAssert(AssertTree tree, Void none) {
            refuse(6, tree);
            return null;
        }
    }

    /** How many calls can stand open at once, with each that calls itself again counted once. */
    private static final class Depths {
        private final Look look;
        private final Deque<ExecutableElement> open = new ArrayDeque<>();

        Depths(Look look) {
            this.look = look;
        }

        void look() {
            for (ExecutableElement m : look.calls.keySet()) {
                if (m.getModifiers().contains(Modifier.PUBLIC)) {
                    int depth = depth(m, (TypeElement) m.getEnclosingElement());
                    due(11, m + " goes " + depth + " calls deep", depth <= DEPTH_LIMIT);
                }
            }
        }

        /** Of a method of an object of class self. */
        private int depth(ExecutableElement m, TypeElement self) {
            if (open.contains(m)) {
                for (ExecutableElement again : open) {
                    boolean carries = again.getParameters().stream().anyMatch(p -> p.getSimpleName().contentEquals("depth"));
                    due(8, again + " calls itself and carries no depth", carries);
                    if (again.equals(m)) {
                        break;
                    }
                }
                return 0;
            }
            open.push(m);
            int deepest = 0;
            for (Call call : look.calls.getOrDefault(m, List.of())) {
                deepest = Math.max(deepest, depthOf(call, self));
            }
            open.pop();
            return deepest + 1;
        }

        private int depthOf(Call call, TypeElement self) {
            TypeElement of = (TypeElement) call.to().getEnclosingElement();
            if (call.bySuper()) {
                return depth(call.to(), self);
            }
            if (!call.ofAnother()) {
                return depth(bodyIn(self, call.to()), self);
            }
            int deepest = 0;
            for (TypeElement kind : look.classes) {
                if (isUnder(kind, of)) {
                    deepest = Math.max(deepest, depth(bodyIn(kind, call.to()), kind));
                }
            }
            return deepest;
        }

        private static TypeElement above(TypeElement c) {
            return c.getSuperclass() instanceof DeclaredType t ? (TypeElement) t.asElement() : null;
        }

        private static boolean isUnder(TypeElement c, TypeElement top) {
            for (TypeElement k = c; k != null; k = above(k)) {
                if (k.equals(top)) {
                    return true;
                }
            }
            return false;
        }

        /** The body that runs when an object of the class gets the call: no two methods of a class share a name here. */
        private static ExecutableElement bodyIn(TypeElement c, ExecutableElement m) {
            for (TypeElement k = c; k != null && isOwn(k); k = above(k)) {
                for (ExecutableElement body : ElementFilter.methodsIn(k.getEnclosedElements())) {
                    if (body.getSimpleName().equals(m.getSimpleName())) {
                        return body;
                    }
                }
            }
            return m;
        }
    }
}
