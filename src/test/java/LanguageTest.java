import com.sun.source.tree.ArrayAccessTree;
import com.sun.source.tree.AssertTree;
import com.sun.source.tree.AssignmentTree;
import com.sun.source.tree.BinaryTree;
import com.sun.source.tree.BlockTree;
import com.sun.source.tree.ClassTree;
import com.sun.source.tree.CompilationUnitTree;
import com.sun.source.tree.CompoundAssignmentTree;
import com.sun.source.tree.DoWhileLoopTree;
import com.sun.source.tree.EnhancedForLoopTree;
import com.sun.source.tree.ExpressionTree;
import com.sun.source.tree.ForLoopTree;
import com.sun.source.tree.LambdaExpressionTree;
import com.sun.source.tree.LiteralTree;
import com.sun.source.tree.MemberReferenceTree;
import com.sun.source.tree.MethodInvocationTree;
import com.sun.source.tree.MethodTree;
import com.sun.source.tree.NewArrayTree;
import com.sun.source.tree.NewClassTree;
import com.sun.source.tree.SynchronizedTree;
import com.sun.source.tree.ThrowTree;
import com.sun.source.tree.Tree;
import com.sun.source.tree.TryTree;
import com.sun.source.tree.TypeCastTree;
import com.sun.source.tree.UnaryTree;
import com.sun.source.tree.VariableTree;
import com.sun.source.tree.WhileLoopTree;
import com.sun.source.util.JavacTask;
import com.sun.source.util.TreePath;
import com.sun.source.util.TreePathScanner;
import com.sun.source.util.TreeScanner;
import com.sun.source.util.Trees;
import java.nio.charset.StandardCharsets;
import java.nio.file.Path;
import java.util.HashSet;
import java.util.LinkedHashSet;
import java.util.List;
import java.util.Map;
import java.util.Set;
import java.util.TreeMap;
import java.util.TreeSet;
import javax.lang.model.element.Element;
import javax.lang.model.element.ElementKind;
import javax.lang.model.element.ExecutableElement;
import javax.lang.model.element.Modifier;
import javax.lang.model.element.VariableElement;
import javax.lang.model.type.ArrayType;
import javax.lang.model.type.DeclaredType;
import javax.lang.model.type.TypeKind;
import javax.lang.model.type.TypeMirror;
import javax.tools.JavaCompiler;
import javax.tools.StandardJavaFileManager;
import javax.tools.ToolProvider;

/**
 * The rules of LANGUAGE.md, looked for in the source as the compiler reads it. It is stricter than
 * they are where the class does without something: doubles, lists, casts among own classes, objects
 * made behind the constructors. An argument names another source to look at.
 */
public final class LanguageTest {
    private static final String SOURCE = "src/main/java/ChanceBounds.java";
    /** What the class may call of the library; rule 4 has more. */
    private static final Set<String> LIBRARY = Set.of("String.length()", "String.charAt(int)", "String.indexOf(int)",
            "Integer.bitCount(int)", "Math.abs(long)", "Math.max(int,int)", "Math.min(int,int)");
    private static final int MOST_CLASSES = 12, MOST_FIELDS = 20, MOST_PARAMETERS = 7, MOST_LINES = 60, MOST_DEEP = 8;

    private final Trees trees;
    private final CompilationUnitTree unit;
    /** Which methods a method calls, those of the library too. */
    private final Map<String, Set<String>> calls = new TreeMap<>();
    private final Map<String, ExecutableElement> methods = new TreeMap<>();
    private final Set<Element> arraysOfClass = new HashSet<>();
    private final Set<String> broken = new LinkedHashSet<>();
    private int classes = 0;

    private LanguageTest(Trees trees, CompilationUnitTree unit) {
        this.trees = trees;
        this.unit = unit;
    }

    public static void main(String[] args) throws Exception {
        JavaCompiler compiler = ToolProvider.getSystemJavaCompiler();
        StandardJavaFileManager files = compiler.getStandardFileManager(null, null, StandardCharsets.US_ASCII);
        JavacTask task = (JavacTask) compiler.getTask(null, files, null, List.of("-Xlint:all", "-Werror", "--release", "17"), null,
                files.getJavaFileObjects(Path.of(args.length > 0 ? args[0] : SOURCE)));
        CompilationUnitTree unit = task.parse().iterator().next();
        task.analyze();
        LanguageTest test = new LanguageTest(Trees.instance(task), unit);
        test.look();
        test.broken.forEach(System.out::println);
        System.out.println(test.methods.size() + " methods in " + test.classes + " classes, " + test.broken.size() + " breaks of a rule");
        if (!test.broken.isEmpty()) {
            System.exit(1);
        }
    }

    private void look() {
        rule(0, unit, unit.getPackageName() == null && unit.getImports().isEmpty(), "no package, no import");
        rule(1, unit, unit.getTypeDecls().size() == 1, "one class in the file");
        new StaticArrays().scan(unit, null);
        new Walk().scan(unit, null);
        rule(11, unit, classes <= MOST_CLASSES, classes + " classes");
        rule(0, unit, methods.size() > 40, "methods were found");
        recursion();
        depth();
    }

    private void rule(int number, Tree where, boolean isKept, String what) {
        if (!isKept) {
            long line = unit.getLineMap().getLineNumber(trees.getSourcePositions().getStartPosition(unit, where));
            broken.add("rule " + number + ", line " + line + ": " + what);
        }
    }

    // ---- rules 8 and 11: calls among methods

    private void recursion() {
        for (String method : methods.keySet()) {
            if (reaches(method, method, new HashSet<>())) {
                ExecutableElement element = methods.get(method);
                rule(8, trees.getTree(element), element.getModifiers().contains(Modifier.PRIVATE), "recursion that is not private: " + method);
                boolean hasDepth = element.getParameters().stream().anyMatch(p -> p.getSimpleName().contentEquals("depth"));
                rule(8, trees.getTree(element), hasDepth, "recursion without a depth: " + method);
            }
        }
    }

    private boolean reaches(String from, String to, Set<String> seen) {
        for (String next : calls.getOrDefault(from, Set.of())) {
            if (next.equals(to) || seen.add(next) && reaches(next, to, seen)) {
                return true;
            }
        }
        return false;
    }

    private void depth() {
        for (String method : methods.keySet()) {
            String chain = longestChain(method, new LinkedHashSet<>());
            rule(11, trees.getTree(methods.get(method)), chain.split(" > ").length <= MOST_DEEP, "too deep: " + chain);
        }
    }

    /** Each method counts once, those that call one another too. */
    private String longestChain(String from, Set<String> open) {
        String longest = "";
        open.add(from);
        for (String next : calls.getOrDefault(from, Set.of())) {
            String chain = open.contains(next) ? "" : longestChain(next, open);
            if (chain.split(" > ").length > longest.split(" > ").length || longest.isEmpty()) {
                longest = chain;
            }
        }
        open.remove(from);
        return longest.isEmpty() ? from : from + " > " + longest;
    }

    // ---- what names and types are

    private static String nameOf(Element element) {
        StringBuilder types = new StringBuilder();
        for (VariableElement parameter : ((ExecutableElement) element).getParameters()) {
            types.append(types.length() == 0 ? "" : ",").append(parameter.asType());
        }
        return element.getEnclosingElement().getSimpleName() + "." + element.getSimpleName() + "(" + types + ")";
    }

    private boolean isOwn(Element element) {
        return element != null && trees.getPath(element) != null;
    }

    private boolean isOwn(TypeMirror type) {
        return type.getKind() == TypeKind.DECLARED && isOwn(((DeclaredType) type).asElement());
    }

    private static boolean isNumber(TypeMirror type) {
        return Set.of(TypeKind.INT, TypeKind.LONG, TypeKind.SHORT, TypeKind.BYTE, TypeKind.CHAR).contains(type.getKind());
    }

    private boolean isPlain(TypeMirror type) {
        return isNumber(type) || type.getKind() == TypeKind.BOOLEAN || isOwn(type);
    }

    /** Rule 3, without what the class has no need of. */
    private boolean isAllowed(TypeMirror type) {
        if (type.getKind() == TypeKind.ARRAY) {
            TypeMirror inside = ((ArrayType) type).getComponentType();
            return isPlain(inside) || inside.getKind() == TypeKind.ARRAY && isNumber(((ArrayType) inside).getComponentType());
        }
        return isPlain(type) || type.getKind() == TypeKind.VOID || type.toString().equals("java.lang.String");
    }

    private static boolean isText(TypeMirror type) {
        return type != null && Set.of("java.lang.String", "java.lang.Integer").contains(type.toString());
    }

    /** Rule 5: an array written out in its initialiser. */
    private final class StaticArrays extends TreeScanner<Void, Void> {
        @Override
        public Void visitClass(ClassTree one, Void none) {
            for (Tree member : one.getMembers()) {
                if (member instanceof VariableTree field && field.getModifiers().getFlags().contains(Modifier.STATIC)
                        && field.getInitializer() instanceof NewArrayTree array && array.getInitializers() != null) {
                    arraysOfClass.add(trees.getElement(trees.getPath(unit, field)));
                }
            }
            return super.visitClass(one, none);
        }
    }

    private final class Walk extends TreePathScanner<Void, Void> {
        /** The method that is walked through, or null outside of all. */
        private MethodTree method = null;

        private TypeMirror typeOf(Tree tree) {
            return trees.getTypeMirror(new TreePath(getCurrentPath(), tree));
        }

        // ---- rules 1, 2, 5, 11: classes and their members

        @Override
        public Void visitClass(ClassTree one, Void none) {
            classes++;
            boolean isOuter = getCurrentPath().getParentPath().getLeaf() instanceof CompilationUnitTree;
            Set<Modifier> flags = one.getModifiers().getFlags();
            if (isOuter) {
                rule(1, one, flags.equals(Set.of(Modifier.PUBLIC, Modifier.FINAL)), "public and final");
            } else {
                rule(2, one, getCurrentPath().getParentPath().getLeaf() instanceof ClassTree, "a local or anonymous class");
                rule(2, one, flags.contains(Modifier.STATIC) && !flags.contains(Modifier.PUBLIC), "static, not public: " + one.getSimpleName());
            }
            int fields = 0;
            for (Tree member : one.getMembers()) {
                rule(5, member, !(member instanceof BlockTree), "a block outside of all methods");
                if (member instanceof VariableTree field && !field.getModifiers().getFlags().contains(Modifier.STATIC)) {
                    rule(1, field, field.getModifiers().getFlags().contains(Modifier.PRIVATE), "a field that is not private: " + field.getName());
                    fields++;
                }
            }
            rule(11, one, fields <= MOST_FIELDS, fields + " fields in " + one.getSimpleName());
            return super.visitClass(one, none);
        }

        @Override
        public Void visitVariable(VariableTree variable, Void none) {
            Element element = trees.getElement(getCurrentPath());
            rule(3, variable, isAllowed(element.asType()), "the type of " + variable);
            if (element.getKind() == ElementKind.FIELD && element.getModifiers().contains(Modifier.STATIC)) {
                rule(5, variable, element.getModifiers().contains(Modifier.FINAL), "static, not final: " + variable);
                boolean isConstant = ((VariableElement) element).getConstantValue() != null;
                rule(5, variable, isConstant || arraysOfClass.contains(element), "static, no constant: " + variable);
            }
            return super.visitVariable(variable, none);
        }

        @Override
        public Void visitMethod(MethodTree one, Void none) {
            ExecutableElement element = (ExecutableElement) trees.getElement(getCurrentPath());
            methods.put(nameOf(element), element);
            rule(3, one, isAllowed(element.getReturnType()), "the type of " + one.getName());
            rule(11, one, one.getParameters().size() <= MOST_PARAMETERS, "parameters of " + one.getName());
            rule(6, one, one.getThrows().isEmpty(), "throws of " + one.getName());
            rule(6, one, !Set.of("equals", "hashCode", "toString").contains(one.getName().toString()), "a method " + one.getName());
            long from = unit.getLineMap().getLineNumber(trees.getSourcePositions().getStartPosition(unit, one));
            long to = unit.getLineMap().getLineNumber(Math.max(trees.getSourcePositions().getEndPosition(unit, one), 1));
            rule(11, one, to - from < MOST_LINES, "the length of " + one.getName());
            method = one;
            super.visitMethod(one, none);
            method = null;
            return null;
        }

        // ---- rule 4: what is called; rule 12: what is made

        private void called(Tree where, Element element) {
            String name = nameOf(element);
            boolean isSuper = element.getKind() == ElementKind.CONSTRUCTOR && !isOwn(element);
            rule(4, where, isSuper || isOwn(element) || LIBRARY.contains(name), "a call of " + name);
            if (method != null && !isSuper) {
                Element caller = trees.getElement(trees.getPath(unit, method));
                calls.computeIfAbsent(nameOf(caller), k -> new TreeSet<>()).add(name);
            }
        }

        @Override
        public Void visitMethodInvocation(MethodInvocationTree call, Void none) {
            called(call, trees.getElement(getCurrentPath()));
            return super.visitMethodInvocation(call, none);
        }

        private boolean isMakingAllowed() {
            return method == null || method.getName().contentEquals("<init>");
        }

        @Override
        public Void visitNewClass(NewClassTree made, Void none) {
            rule(4, made, isOwn(typeOf(made.getIdentifier())), "a new " + made.getIdentifier());
            rule(12, made, isMakingAllowed(), "an object is made outside of constructors");
            Element constructor = trees.getElement(getCurrentPath());
            if (isOwn(constructor)) {
                called(made, constructor);
            }
            return super.visitNewClass(made, none);
        }

        @Override
        public Void visitNewArray(NewArrayTree made, Void none) {
            rule(12, made, isMakingAllowed(), "an array is made outside of constructors");
            return super.visitNewArray(made, none);
        }

        // ---- rules 2 and 6: what must not stand at all

        @Override
        public Void visitLambdaExpression(LambdaExpressionTree tree, Void none) {
            rule(2, tree, false, "a lambda");
            return super.visitLambdaExpression(tree, none);
        }

        @Override
        public Void visitMemberReference(MemberReferenceTree tree, Void none) {
            rule(2, tree, false, "a method reference");
            return super.visitMemberReference(tree, none);
        }

        @Override
        public Void visitThrow(ThrowTree tree, Void none) {
            rule(6, tree, false, "throw");
            return super.visitThrow(tree, none);
        }

        @Override
        public Void visitTry(TryTree tree, Void none) {
            rule(6, tree, false, "try");
            return super.visitTry(tree, none);
        }

        @Override
        public Void visitSynchronized(SynchronizedTree tree, Void none) {
            rule(6, tree, false, "synchronized");
            return super.visitSynchronized(tree, none);
        }

        @Override
        public Void visitAssert(AssertTree tree, Void none) {
            rule(6, tree, false, "assert");
            return super.visitAssert(tree, none);
        }

        @Override
        public Void visitTypeCast(TypeCastTree cast, Void none) {
            rule(6, cast, isNumber(typeOf(cast.getType())), "a cast to " + cast.getType());
            return super.visitTypeCast(cast, none);
        }

        // ---- rules 5, 6, 10: what is done with values

        private void changed(Tree where, ExpressionTree target) {
            if (target instanceof ArrayAccessTree access) {
                TreePath array = new TreePath(new TreePath(getCurrentPath(), access), access.getExpression());
                rule(5, where, !arraysOfClass.contains(trees.getElement(array)), "a change of " + access.getExpression());
            }
        }

        @Override
        public Void visitAssignment(AssignmentTree tree, Void none) {
            changed(tree, tree.getVariable());
            return super.visitAssignment(tree, none);
        }

        @Override
        public Void visitCompoundAssignment(CompoundAssignmentTree tree, Void none) {
            changed(tree, tree.getVariable());
            rule(10, tree, !isText(typeOf(tree.getVariable())), "texts are joined");
            return super.visitCompoundAssignment(tree, none);
        }

        @Override
        public Void visitUnary(UnaryTree tree, Void none) {
            boolean isStep = Set.of(Tree.Kind.POSTFIX_INCREMENT, Tree.Kind.POSTFIX_DECREMENT, Tree.Kind.PREFIX_INCREMENT,
                    Tree.Kind.PREFIX_DECREMENT).contains(tree.getKind());
            if (isStep) {
                changed(tree, tree.getExpression());
            }
            return super.visitUnary(tree, none);
        }

        @Override
        public Void visitBinary(BinaryTree tree, Void none) {
            TypeMirror left = typeOf(tree.getLeftOperand());
            TypeMirror right = typeOf(tree.getRightOperand());
            rule(tree.getKind() == Tree.Kind.PLUS ? 10 : 6, tree, !isText(left) && !isText(right), "texts in " + tree);
            return super.visitBinary(tree, none);
        }

        @Override
        public Void visitLiteral(LiteralTree tree, Void none) {
            if (tree.getValue() instanceof String text) {
                rule(4, tree, text.chars().allMatch(sign -> sign >= 1 && sign <= 127), "a sign of " + tree);
            }
            return super.visitLiteral(tree, none);
        }

        // ---- rule 9: loops

        /** One of what && joins must be a comparison with a bound. */
        private boolean hasBound(ExpressionTree condition) {
            Tree bare = condition instanceof com.sun.source.tree.ParenthesizedTree p ? p.getExpression() : condition;
            if (bare instanceof BinaryTree binary) {
                if (binary.getKind() == Tree.Kind.CONDITIONAL_AND) {
                    return hasBound(binary.getLeftOperand()) || hasBound(binary.getRightOperand());
                }
                return Set.of(Tree.Kind.LESS_THAN, Tree.Kind.LESS_THAN_EQUAL, Tree.Kind.GREATER_THAN, Tree.Kind.GREATER_THAN_EQUAL)
                        .contains(binary.getKind());
            }
            return false;
        }

        @Override
        public Void visitForLoop(ForLoopTree loop, Void none) {
            rule(9, loop, hasBound(loop.getCondition()) && loop.getUpdate().size() == 1, "a loop without a bound");
            return super.visitForLoop(loop, none);
        }

        @Override
        public Void visitWhileLoop(WhileLoopTree loop, Void none) {
            rule(9, loop, hasBound(loop.getCondition()), "a loop without a bound");
            return super.visitWhileLoop(loop, none);
        }

        @Override
        public Void visitDoWhileLoop(DoWhileLoopTree loop, Void none) {
            rule(9, loop, hasBound(loop.getCondition()), "a loop without a bound");
            return super.visitDoWhileLoop(loop, none);
        }

        @Override
        public Void visitEnhancedForLoop(EnhancedForLoopTree loop, Void none) {
            rule(12, loop, typeOf(loop.getExpression()).getKind() == TypeKind.ARRAY, "a loop over a list");
            return super.visitEnhancedForLoop(loop, none);
        }
    }
}
