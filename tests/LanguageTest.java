import com.sun.source.tree.ArrayAccessTree;
import com.sun.source.tree.AssertTree;
import com.sun.source.tree.AssignmentTree;
import com.sun.source.tree.BinaryTree;
import com.sun.source.tree.ClassTree;
import com.sun.source.tree.CompilationUnitTree;
import com.sun.source.tree.CompoundAssignmentTree;
import com.sun.source.tree.DoWhileLoopTree;
import com.sun.source.tree.ExpressionTree;
import com.sun.source.tree.ForLoopTree;
import com.sun.source.tree.IdentifierTree;
import com.sun.source.tree.ImportTree;
import com.sun.source.tree.InstanceOfTree;
import com.sun.source.tree.LambdaExpressionTree;
import com.sun.source.tree.MemberReferenceTree;
import com.sun.source.tree.MemberSelectTree;
import com.sun.source.tree.MethodInvocationTree;
import com.sun.source.tree.MethodTree;
import com.sun.source.tree.NewArrayTree;
import com.sun.source.tree.NewClassTree;
import com.sun.source.tree.SynchronizedTree;
import com.sun.source.tree.ThrowTree;
import com.sun.source.tree.Tree;
import com.sun.source.tree.TryTree;
import com.sun.source.tree.TypeCastTree;
import com.sun.source.tree.UnaryTree;
import com.sun.source.tree.VariableTree;
import com.sun.source.tree.WhileLoopTree;
import com.sun.source.util.JavacTask;
import com.sun.source.util.TreePath;
import com.sun.source.util.TreePathScanner;
import com.sun.source.util.Trees;
import java.io.File;
import java.io.IOException;
import java.nio.file.Files;
import java.nio.file.Path;
import java.util.HashMap;
import java.util.HashSet;
import java.util.List;
import java.util.Map;
import java.util.Set;
import java.util.TreeMap;
import java.util.TreeSet;
import javax.lang.model.element.Element;
import javax.lang.model.element.ElementKind;
import javax.lang.model.element.ExecutableElement;
import javax.lang.model.element.Modifier;
import javax.lang.model.element.TypeElement;
import javax.lang.model.type.ArrayType;
import javax.lang.model.type.TypeKind;
import javax.lang.model.type.TypeMirror;
import javax.tools.JavaCompiler;
import javax.tools.StandardJavaFileManager;
import javax.tools.ToolProvider;

/** The rules of LANGUAGE.md, looked for in the program as the compiler reads it. */
public final class LanguageTest {
    private static final Path FILE = Path.of("src/main/java/TemplateForge.java");
    private static final int MOST_CLASSES = 12, MOST_FIELDS = 20, MOST_LINES = 60, MOST_PARAMETERS = 7, MOST_CALLS = 8;
    private static final Set<String> LIBRARY =
            Set.of("java.util.Arrays.fill", "java.util.Arrays.copyOf", "java.lang.Math.max", "java.lang.Math.min");
    private static final Set<String> NUMBERS =
            Set.of("int[]", "long[]", "short[]", "byte[]", "char[]", "double[]", "float[]");

    public static void main(String[] args) throws IOException {
        JavaCompiler compiler = ToolProvider.getSystemJavaCompiler();
        try (StandardJavaFileManager files = compiler.getStandardFileManager(null, null, null)) {
            JavacTask task = (JavacTask) compiler.getTask(null, files, null, List.of("-proc:none"), null,
                    files.getJavaFileObjects(new File(FILE.toString())));
            for (CompilationUnitTree unit : task.parse()) {
                task.analyze();
                Reader reader = new Reader(Trees.instance(task), unit);
                reader.scan(unit, null);
                reader.endOfFile();
            }
        }
        signs(Files.readString(FILE));
        Due.end();
    }

    private static void dueRule(int rule, String what, boolean holds) {
        Due.about("rule " + rule + " of LANGUAGE.md");
        Due.due(what, holds ? 1 : 0, 1);
    }

    private static void signs(String text) {
        dueRule(4, "signs are 1 to 127", text.chars().allMatch(c -> c > 0 && c < 128));
        dueRule(0, "no package line", !text.contains("\npackage ") && !text.startsWith("package "));
    }

    private static final class Reader extends TreePathScanner<Void, Void> {
        private final Trees trees;
        private final CompilationUnitTree unit;
        private final Map<Element, Set<Element>> calls = new HashMap<>();
        private final Set<String> publicNames = new TreeSet<>(), privateNames = new TreeSet<>();
        private int classes;

        Reader(Trees trees, CompilationUnitTree unit) {
            this.trees = trees;
            this.unit = unit;
        }

        private Element elementOf(Tree tree) {
            return trees.getElement(new TreePath(getCurrentPath(), tree));
        }

        private long line(Tree tree, boolean isEnd) {
            long at = isEnd ? trees.getSourcePositions().getEndPosition(unit, tree)
                    : trees.getSourcePositions().getStartPosition(unit, tree);
            return unit.getLineMap().getLineNumber(at);
        }

        private void forbid(int rule, Tree tree) {
            dueRule(rule, "line " + line(tree, false) + ": " + tree.getKind(), false);
        }

        private boolean isOwn(Element e) {
            Element top = e;
            while (top.getEnclosingElement() != null && top.getEnclosingElement().getKind() != ElementKind.PACKAGE) {
                top = top.getEnclosingElement();
            }
            return top.getSimpleName().contentEquals("TemplateForge");
        }

        private void dueType(Tree tree, TypeMirror type) {
            TypeMirror t = type;
            int dimensions = 0;
            while (t.getKind() == TypeKind.ARRAY) {
                t = ((ArrayType) t).getComponentType();
                dimensions++;
            }
            boolean isNumber = t.getKind().isPrimitive() && t.getKind() != TypeKind.BOOLEAN;
            boolean isOwnClass = t.getKind() == TypeKind.DECLARED
                    && isOwn(((javax.lang.model.type.DeclaredType) t).asElement());
            String name = t.toString();
            boolean isTold = t.getKind().isPrimitive() || t.getKind() == TypeKind.VOID || isOwnClass
                    || name.equals("java.lang.String") || name.equals("java.lang.StringBuilder");
            dueRule(3, "line " + line(tree, false) + ": a type " + type, isTold);
            dueRule(3, "line " + line(tree, false) + ": dimensions of " + type, dimensions <= (isNumber ? 2 : 1));
        }

        // ---- rules 1, 2, 5, 11: classes and what they have

        @Override
        public Void visitClass(ClassTree c, Void v) {
            classes++;
            TypeElement e = (TypeElement) trees.getElement(getCurrentPath());
            Set<Modifier> m = e.getModifiers();
            boolean isOuter = e.getEnclosingElement().getKind() == ElementKind.PACKAGE;
            if (isOuter) {
                dueRule(1, "public and final", m.contains(Modifier.PUBLIC) && m.contains(Modifier.FINAL));
                dueRule(1, "its name", e.getSimpleName().contentEquals("TemplateForge"));
            } else {
                dueRule(2, "static: " + e, m.contains(Modifier.STATIC) && e.getEnclosingElement().getKind().isClass());
                dueRule(1, "private or package-visible: " + e,
                        !m.contains(Modifier.PUBLIC) && !m.contains(Modifier.PROTECTED));
            }
            int fields = 0;
            for (Element member : e.getEnclosedElements()) {
                if (member.getKind() == ElementKind.FIELD) {
                    fields += member.getModifiers().contains(Modifier.STATIC) ? 0 : 1;
                }
                if (isOuter && !member.getKind().isClass()) {
                    Set<Modifier> of = member.getModifiers();
                    dueRule(1, "public or private: " + member,
                            of.contains(Modifier.PUBLIC) != of.contains(Modifier.PRIVATE));
                }
            }
            dueRule(11, "fields of " + e + ": " + fields, fields <= MOST_FIELDS);
            return super.visitClass(c, v);
        }

        @Override
        public Void visitMethod(MethodTree m, Void v) {
            ExecutableElement e = (ExecutableElement) trees.getElement(getCurrentPath());
            Set<String> names = e.getModifiers().contains(Modifier.PUBLIC) ? publicNames : privateNames;
            if (e.getKind() == ElementKind.METHOD) {
                names.add(e.getSimpleName().toString());
                dueType(m, e.getReturnType());
            }
            calls.computeIfAbsent(e, k -> new HashSet<>());
            dueRule(11, "parameters of " + e, e.getParameters().size() <= MOST_PARAMETERS);
            long lines = line(m, true) - line(m, false) + 1;
            dueRule(11, "lines of " + e + ": " + lines, lines <= MOST_LINES);
            dueRule(6, "no throws: " + e, e.getThrownTypes().isEmpty());
            dueRule(2, "no type parameters: " + e, e.getTypeParameters().isEmpty());
            dueRule(6, "equals, hashCode, toString: " + e,
                    !Set.of("equals", "hashCode", "toString", "finalize").contains(e.getSimpleName().toString()));
            return super.visitMethod(m, v);
        }

        @Override
        public Void visitVariable(VariableTree t, Void v) {
            Element e = trees.getElement(getCurrentPath());
            dueType(t, e.asType());
            if (e.getKind() == ElementKind.FIELD && e.getModifiers().contains(Modifier.STATIC)) {
                dueRule(5, "final: " + e, e.getModifiers().contains(Modifier.FINAL));
                String type = e.asType().toString();
                boolean isArray = Set.of("int[]", "long[]", "char[]", "byte[]").contains(type);
                dueRule(5, "type of a static field: " + e + ", " + type, isArray
                        || Set.of("int", "long", "boolean", "char", "java.lang.String").contains(type));
                dueRule(5, "written out: " + e, !isArray || t.getInitializer() instanceof NewArrayTree
                        && ((NewArrayTree) t.getInitializer()).getInitializers() != null);
            }
            return super.visitVariable(t, v);
        }

        private void dueUnchanged(Tree target) {
            Element e = target instanceof ArrayAccessTree
                    ? elementOf(((ArrayAccessTree) target).getExpression()) : elementOf(target);
            boolean isStatic = e != null && e.getKind() == ElementKind.FIELD
                    && e.getModifiers().contains(Modifier.STATIC);
            dueRule(5, "line " + line(target, false) + ": never changed", !isStatic);
        }

        @Override
        public Void visitAssignment(AssignmentTree t, Void v) {
            dueUnchanged(t.getVariable());
            return super.visitAssignment(t, v);
        }

        @Override
        public Void visitCompoundAssignment(CompoundAssignmentTree t, Void v) {
            dueUnchanged(t.getVariable());
            dueRule(10, "line " + line(t, false) + ": texts are not joined so", !isText(t.getVariable()));
            return super.visitCompoundAssignment(t, v);
        }

        @Override
        public Void visitUnary(UnaryTree t, Void v) {
            if (Set.of(Tree.Kind.PREFIX_INCREMENT, Tree.Kind.PREFIX_DECREMENT, Tree.Kind.POSTFIX_INCREMENT,
                    Tree.Kind.POSTFIX_DECREMENT).contains(t.getKind())) {
                dueUnchanged(t.getExpression());
            }
            return super.visitUnary(t, v);
        }

        // ---- rules 4, 8, 12: what is called and made

        private ExecutableElement caller() {
            for (TreePath p = getCurrentPath(); p != null; p = p.getParentPath()) {
                if (p.getLeaf() instanceof MethodTree) {
                    return (ExecutableElement) trees.getElement(p);
                }
            }
            return null;
        }

        private boolean isInLoop() {
            for (TreePath p = getCurrentPath(); p != null && !(p.getLeaf() instanceof MethodTree);
                    p = p.getParentPath()) {
                if (p.getLeaf() instanceof ForLoopTree || p.getLeaf() instanceof WhileLoopTree
                        || p.getLeaf() instanceof DoWhileLoopTree) {
                    return true;
                }
            }
            return false;
        }

        @Override
        public Void visitMethodInvocation(MethodInvocationTree t, Void v) {
            Element e = elementOf(t.getMethodSelect());
            String at = "line " + line(t, false) + ": ";
            if (e.getSimpleName().contentEquals("<init>")) {
                // the constructor above the first one is Object's
                return super.visitMethodInvocation(t, v);
            }
            if (isOwn(e)) {
                if (caller() != null) {
                    calls.computeIfAbsent(caller(), k -> new HashSet<>()).add(e);
                } else {
                    dueRule(12, at + "a call in a field's initialiser", false);
                }
            } else {
                String name = e.getEnclosingElement() + "." + e.getSimpleName();
                dueRule(4, at + name, LIBRARY.contains(name));
                if (name.startsWith("java.util.Arrays.")) {
                    ExpressionTree first = t.getArguments().get(0);
                    String type = trees.getTypeMirror(new TreePath(getCurrentPath(), first)).toString();
                    dueRule(4, at + name + " over numbers: " + type, NUMBERS.contains(type));
                }
            }
            return super.visitMethodInvocation(t, v);
        }

        @Override
        public Void visitNewClass(NewClassTree t, Void v) {
            Element e = trees.getElement(getCurrentPath());
            String at = "line " + line(t, false) + ": new " + t.getIdentifier();
            dueRule(2, at + " with a body", t.getClassBody() == null);
            dueRule(4, at, isOwn(e));
            if (isOwn(e) && caller() != null) {
                calls.computeIfAbsent(caller(), k -> new HashSet<>()).add(e);
            }
            dueRule(12, at + " in a loop of no constructor",
                    !isInLoop() || caller().getKind() == ElementKind.CONSTRUCTOR);
            return super.visitNewClass(t, v);
        }

        @Override
        public Void visitNewArray(NewArrayTree t, Void v) {
            dueRule(12, "line " + line(t, false) + ": a new array in a loop", !isInLoop());
            for (ExpressionTree d : t.getDimensions()) {
                Object constant = d instanceof com.sun.source.tree.LiteralTree
                        ? ((com.sun.source.tree.LiteralTree) d).getValue() : null;
                boolean isNamed = d instanceof IdentifierTree || d instanceof BinaryTree;
                dueRule(7, "line " + line(t, false) + ": a length that is a constant", constant != null
                        || isNamed && d.toString().matches("[A-Z_]+( \\* [A-Z_]+)?"));
            }
            return super.visitNewArray(t, v);
        }

        /** How many calls are open at most, from that one on; more than can be if it comes back to itself. */
        private int deepest(Element e, Set<Element> open, Map<Element, Integer> known) {
            if (open.contains(e)) {
                return 1000;
            }
            if (!known.containsKey(e)) {
                open.add(e);
                int most = 0;
                for (Element called : calls.getOrDefault(e, Set.of())) {
                    most = Math.max(most, deepest(called, open, known));
                }
                open.remove(e);
                known.put(e, most + 1);
            }
            return known.get(e);
        }

        // ---- rules 6, 9, 10: what may not stand there

        private boolean isText(Tree tree) {
            TypeMirror t = trees.getTypeMirror(new TreePath(getCurrentPath(), tree));
            return t != null && t.toString().equals("java.lang.String");
        }

        @Override
        public Void visitBinary(BinaryTree t, Void v) {
            boolean hasText = isText(t.getLeftOperand()) || isText(t.getRightOperand());
            dueRule(10, "line " + line(t, false) + ": texts are not joined or compared so", !hasText);
            if (t.getKind() == Tree.Kind.DIVIDE || t.getKind() == Tree.Kind.REMAINDER) {
                String by = t.getRightOperand().toString(), method = getCurrentPath().getParentPath().getLeaf().toString();
                dueRule(7, "line " + line(t, false) + ": a divisor that is looked at",
                        by.matches("[A-Z]+") || method.contains(by + " == 0 ?"));
            }
            return super.visitBinary(t, v);
        }

        @Override
        public Void visitForLoop(ForLoopTree t, Void v) {
            dueRule(9, "line " + line(t, false) + ": a loop without a bound",
                    t.getCondition() != null && t.getCondition().toString().contains("<") && t.getUpdate().size() == 1
                            && t.getUpdate().get(0).toString().matches("\\w+\\+\\+;?"));
            return super.visitForLoop(t, v);
        }

        @Override
        public Void visitWhileLoop(WhileLoopTree t, Void v) {
            forbid(9, t);
            return super.visitWhileLoop(t, v);
        }

        @Override
        public Void visitDoWhileLoop(DoWhileLoopTree t, Void v) {
            forbid(9, t);
            return super.visitDoWhileLoop(t, v);
        }

        @Override
        public Void visitLambdaExpression(LambdaExpressionTree t, Void v) {
            forbid(2, t);
            return super.visitLambdaExpression(t, v);
        }

        @Override
        public Void visitMemberReference(MemberReferenceTree t, Void v) {
            forbid(2, t);
            return super.visitMemberReference(t, v);
        }

        @Override
        public Void visitThrow(ThrowTree t, Void v) {
            forbid(6, t);
            return super.visitThrow(t, v);
        }

        @Override
        public Void visitTry(TryTree t, Void v) {
            forbid(6, t);
            return super.visitTry(t, v);
        }

        @Override
        public Void visitSynchronized(SynchronizedTree t, Void v) {
            forbid(6, t);
            return super.visitSynchronized(t, v);
        }

        @Override
        public Void visitAssert(AssertTree t, Void v) {
            forbid(6, t);
            return super.visitAssert(t, v);
        }

        @Override
        public Void visitInstanceOf(InstanceOfTree t, Void v) {
            forbid(6, t);
            return super.visitInstanceOf(t, v);
        }

        @Override
        public Void visitTypeCast(TypeCastTree t, Void v) {
            forbid(7, t);
            return super.visitTypeCast(t, v);
        }

        @Override
        public Void visitBlock(com.sun.source.tree.BlockTree t, Void v) {
            boolean isInitialiser = getCurrentPath().getParentPath().getLeaf() instanceof ClassTree;
            dueRule(5, "line " + line(t, false) + ": an initialiser block", !isInitialiser);
            return super.visitBlock(t, v);
        }

        @Override
        public Void visitImport(ImportTree t, Void v) {
            dueRule(4, "import " + t.getQualifiedIdentifier(),
                    t.getQualifiedIdentifier().toString().equals("java.util.Arrays"));
            return null;
        }

        @Override
        public Void visitMemberSelect(MemberSelectTree t, Void v) {
            Element e = trees.getElement(getCurrentPath());
            boolean isField = e != null && e.getKind() == ElementKind.FIELD;
            dueRule(4, "line " + line(t, false) + ": " + t,
                    !isField || t.getIdentifier().contentEquals("length") || isOwn(e));
            return super.visitMemberSelect(t, v);
        }

        void endOfFile() {
            dueRule(11, "classes: " + classes, classes <= MOST_CLASSES);
            for (String name : privateNames) {
                dueRule(1, "a name of the face: " + name, !publicNames.contains(name));
            }
            Map<Element, Integer> known = new HashMap<>();
            Map<String, Integer> face = new TreeMap<>();
            for (Element e : calls.keySet()) {
                int deep = deepest(e, new HashSet<>(), known);
                dueRule(8, e + " comes back to itself", deep < 1000);
                if (e.getModifiers().contains(Modifier.PUBLIC)) {
                    face.put(e.toString(), deep);
                    dueRule(11, "calls open at once from " + e + ": " + deep, deep <= MOST_CALLS);
                }
            }
            dueRule(1, "public methods and the constructor", face.size() == 19);
            System.out.println("calls open at once: " + face);
        }
    }
}
