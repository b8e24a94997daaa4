import com.sun.source.tree.BinaryTree;
import com.sun.source.tree.ClassTree;
import com.sun.source.tree.CompilationUnitTree;
import com.sun.source.tree.ExpressionTree;
import com.sun.source.tree.ForLoopTree;
import com.sun.source.tree.MethodInvocationTree;
import com.sun.source.tree.MethodTree;
import com.sun.source.tree.NewArrayTree;
import com.sun.source.tree.NewClassTree;
import com.sun.source.tree.ThrowTree;
import com.sun.source.tree.Tree;
import com.sun.source.tree.VariableTree;
import com.sun.source.util.JavacTask;
import com.sun.source.util.TreePath;
import com.sun.source.util.TreePathScanner;
import com.sun.source.util.Trees;
import java.nio.file.Path;
import java.util.EnumSet;
import java.util.HashMap;
import java.util.LinkedHashMap;
import java.util.LinkedHashSet;
import java.util.List;
import java.util.Map;
import java.util.Set;
import javax.lang.model.element.Element;
import javax.lang.model.element.ElementKind;
import javax.lang.model.element.ExecutableElement;
import javax.lang.model.element.Modifier;
import javax.lang.model.type.ArrayType;
import javax.lang.model.type.TypeMirror;
import javax.lang.model.util.ElementFilter;
import javax.tools.Diagnostic;
import javax.tools.JavaCompiler;
import javax.tools.StandardJavaFileManager;
import javax.tools.ToolProvider;

/** The rules of LANGUAGE.md that can be seen in the source of the class, as the compiler reads it. */
public final class LanguageTest {
    private static final int MAX_CLASSES = 12;
    private static final int MAX_FIELDS = 20;
    private static final int MAX_LINES = 60;
    private static final int MAX_PARAMETERS = 7;
    private static final int MAX_DEPTH = 8;
    private static final Set<String> LIBRARY = Set.of("Math.floorMod", "Math.min", "Object.<init>");
    private static final Set<String> EXCEPTIONS = Set.of("IllegalStateException.<init>", "IllegalArgumentException.<init>",
            "IndexOutOfBoundsException.<init>");

    /** The kinds of signs that the rules allow and the class needs: no lambda, try, catch, instanceof and so on. */
    private static final Set<Tree.Kind> KINDS = EnumSet.of(Tree.Kind.COMPILATION_UNIT, Tree.Kind.CLASS, Tree.Kind.MODIFIERS,
            Tree.Kind.VARIABLE, Tree.Kind.METHOD, Tree.Kind.PRIMITIVE_TYPE, Tree.Kind.ARRAY_TYPE, Tree.Kind.BLOCK,
            Tree.Kind.IDENTIFIER, Tree.Kind.MEMBER_SELECT, Tree.Kind.METHOD_INVOCATION, Tree.Kind.NEW_CLASS,
            Tree.Kind.NEW_ARRAY, Tree.Kind.ARRAY_ACCESS, Tree.Kind.PARENTHESIZED, Tree.Kind.TYPE_CAST,
            Tree.Kind.EXPRESSION_STATEMENT, Tree.Kind.ASSIGNMENT, Tree.Kind.RETURN, Tree.Kind.THROW, Tree.Kind.IF,
            Tree.Kind.FOR_LOOP, Tree.Kind.WHILE_LOOP, Tree.Kind.SWITCH, Tree.Kind.CASE, Tree.Kind.CONDITIONAL_EXPRESSION,
            Tree.Kind.INT_LITERAL, Tree.Kind.LONG_LITERAL, Tree.Kind.CHAR_LITERAL, Tree.Kind.BOOLEAN_LITERAL,
            Tree.Kind.STRING_LITERAL, Tree.Kind.NULL_LITERAL, Tree.Kind.PLUS, Tree.Kind.MINUS, Tree.Kind.MULTIPLY,
            Tree.Kind.DIVIDE, Tree.Kind.REMAINDER, Tree.Kind.UNARY_MINUS, Tree.Kind.LOGICAL_COMPLEMENT, Tree.Kind.LEFT_SHIFT,
            Tree.Kind.RIGHT_SHIFT, Tree.Kind.UNSIGNED_RIGHT_SHIFT, Tree.Kind.AND, Tree.Kind.CONDITIONAL_AND,
            Tree.Kind.CONDITIONAL_OR, Tree.Kind.EQUAL_TO, Tree.Kind.NOT_EQUAL_TO, Tree.Kind.LESS_THAN,
            Tree.Kind.LESS_THAN_EQUAL, Tree.Kind.GREATER_THAN, Tree.Kind.GREATER_THAN_EQUAL, Tree.Kind.POSTFIX_INCREMENT,
            Tree.Kind.POSTFIX_DECREMENT, Tree.Kind.PLUS_ASSIGNMENT, Tree.Kind.MULTIPLY_ASSIGNMENT,
            Tree.Kind.DIVIDE_ASSIGNMENT, Tree.Kind.OR_ASSIGNMENT);

    public static void main(String[] args) throws Exception {
        JavaCompiler compiler = ToolProvider.getSystemJavaCompiler();
        try (StandardJavaFileManager files = compiler.getStandardFileManager(null, null, null)) {
            JavacTask task = (JavacTask) compiler.getTask(null, files, null, List.of("-proc:none"), null,
                    files.getJavaFileObjects(Path.of("src/main/java/ProgramDrum.java")));
            CompilationUnitTree unit = task.parse().iterator().next();
            task.analyze();
            Check.is("no package line", true, unit.getPackageName() == null);
            Check.is("no import", 0, unit.getImports().size());
            Reader reader = new Reader(Trees.instance(task), unit);
            reader.scan(unit, null);
            reader.classesAreSmall();
            reader.callsAreNotDeep();
        }
        Check.end("LanguageTest");
    }

    /** Checks each sign of the source as it comes by, and notes which method calls which. */
    private static final class Reader extends TreePathScanner<Void, Void> {
        private final Trees trees;
        private final CompilationUnitTree unit;
        private final Map<Element, Integer> fields = new LinkedHashMap<>();
        private final Map<Element, Set<Element>> calls = new LinkedHashMap<>();
        private final Map<Element, Integer> depths = new HashMap<>();

        Reader(Trees trees, CompilationUnitTree unit) {
            this.trees = trees;
            this.unit = unit;
        }

        @Override
        public Void scan(Tree tree, Void none) {
            if (tree != null) {
                Check.is("rule 10: " + tree.getKind() + " in line " + line(tree), true, KINDS.contains(tree.getKind()));
            }
            return super.scan(tree, none);
        }

        @Override
        public Void visitClass(ClassTree tree, Void none) {
            Element owner = here();
            boolean isInside = owner.getEnclosingElement().getKind() == ElementKind.CLASS;
            Check.is("rule 2: " + owner + " is static", isInside, owner.getModifiers().contains(Modifier.STATIC));
            fields.put(owner, 0);
            return super.visitClass(tree, none);
        }

        @Override
        public Void visitVariable(VariableTree tree, Void none) {
            Element variable = here();
            isAllowedType(tree, variable.asType());
            if (variable.getKind() == ElementKind.FIELD && variable.getModifiers().contains(Modifier.STATIC)) {
                Check.is("rule 5: " + variable + " is final", true, variable.getModifiers().contains(Modifier.FINAL));
                Check.is("rule 5: " + variable + " is a number", true, variable.asType().getKind().isPrimitive());
            } else if (variable.getKind() == ElementKind.FIELD) {
                fields.merge(variable.getEnclosingElement(), 1, Integer::sum);
            }
            return super.visitVariable(tree, none);
        }

        @Override
        public Void visitMethod(MethodTree tree, Void none) {
            ExecutableElement method = (ExecutableElement) here();
            calls.computeIfAbsent(method, m -> new LinkedHashSet<>());
            Check.is("rule 11: parameters of " + method, true, method.getParameters().size() <= MAX_PARAMETERS);
            long lines = end(tree) == Diagnostic.NOPOS ? 0 : unit.getLineMap().getLineNumber(end(tree)) - line(tree) + 1;
            Check.is("rule 11: the " + lines + " lines of " + method + " are few", true, lines <= MAX_LINES);
            if (tree.getReturnType() != null) {
                isAllowedType(tree, method.getReturnType());
            }
            return super.visitMethod(tree, none);
        }

        /** Rule 3: numbers, own classes, and rows of one dimension of both. */
        private void isAllowedType(Tree tree, TypeMirror type) {
            TypeMirror plain = type instanceof ArrayType ? ((ArrayType) type).getComponentType() : type;
            boolean isAllowed = plain.getKind().isPrimitive() || plain.toString().startsWith("ProgramDrum")
                    || type.toString().equals("void");
            Check.is("rule 3: the type " + type + " in line " + line(tree), true, isAllowed);
        }

        @Override
        public Void visitForLoop(ForLoopTree tree, Void none) {
            Check.is("rule 9: the loop in line " + line(tree) + " has a bound", true, tree.getCondition() != null);
            return super.visitForLoop(tree, none);
        }

        @Override
        public Void visitMethodInvocation(MethodInvocationTree tree, Void none) {
            noteCall(tree);
            return super.visitMethodInvocation(tree, none);
        }

        @Override
        public Void visitNewClass(NewClassTree tree, Void none) {
            noteCall(tree);
            if (getCurrentPath().getParentPath().getLeaf().getKind() != Tree.Kind.THROW) {
                isMadeWithTheDrum(tree);
            }
            return super.visitNewClass(tree, none);
        }

        @Override
        public Void visitNewArray(NewArrayTree tree, Void none) {
            isMadeWithTheDrum(tree);
            return super.visitNewArray(tree, none);
        }

        /** Rule 12 and the room of a run: only constructors, and the initialisers of fields, make objects. */
        private void isMadeWithTheDrum(Tree tree) {
            for (Element caller : callers()) {
                Check.is("rule 12: what " + caller + " makes in line " + line(tree), ElementKind.CONSTRUCTOR, caller.getKind());
            }
        }

        @Override
        public Void visitThrow(ThrowTree tree, Void none) {
            Check.is("rule 6: what is thrown in line " + line(tree), Tree.Kind.NEW_CLASS, tree.getExpression().getKind());
            for (Element caller : callers()) {
                Check.is("rule 6: " + caller + " throws in line " + line(tree), ElementKind.METHOD, caller.getKind());
            }
            return super.visitThrow(tree, none);
        }

        @Override
        public Void visitBinary(BinaryTree tree, Void none) {
            for (ExpressionTree operand : List.of(tree.getLeftOperand(), tree.getRightOperand())) {
                String type = trees.getTypeMirror(new TreePath(getCurrentPath(), operand)).toString();
                Check.is("rules 6, 10: a text at " + tree.getKind() + " in line " + line(tree), false,
                        type.equals("java.lang.String"));
            }
            return super.visitBinary(tree, none);
        }

        /** Rule 4: what is called is the class's own, or stands in the list of what the class needs. */
        private void noteCall(Tree tree) {
            Element called = here();
            Element owner = called.getEnclosingElement();
            for (Element caller : callers()) {
                calls.computeIfAbsent(caller, c -> new LinkedHashSet<>()).add(called);
            }
            String name = owner.getSimpleName() + "." + called.getSimpleName();
            Check.is("rule 4: " + name + " in line " + line(tree), true,
                    isOwn(called) || LIBRARY.contains(name) || EXCEPTIONS.contains(name));
        }

        /** The method around the present sign; for what makes a field, the constructors of its class. */
        private List<? extends Element> callers() {
            for (TreePath path = getCurrentPath(); path != null; path = path.getParentPath()) {
                Element around = path.getLeaf() instanceof MethodTree || path.getLeaf() instanceof VariableTree
                        ? trees.getElement(path) : null;
                if (around != null && around.getKind() == ElementKind.FIELD) {
                    return ElementFilter.constructorsIn(around.getEnclosingElement().getEnclosedElements());
                }
                if (around instanceof ExecutableElement) {
                    return List.of(around);
                }
            }
            return List.of();
        }

        void classesAreSmall() {
            Check.is("rule 11: " + fields.size() + " classes are few", true, fields.size() <= MAX_CLASSES);
            for (Element owner : fields.keySet()) {
                Check.is("rule 11: the " + fields.get(owner) + " fields of " + owner + " are few", true,
                        fields.get(owner) <= MAX_FIELDS);
            }
        }

        /** Rules 8 and 11: no recursion, and no call deeper than eight, those of the library among them. */
        void callsAreNotDeep() {
            Check.is("methods are found", true, calls.size() > 80);
            for (Element method : List.copyOf(calls.keySet())) {
                int depth = depth(method);
                Check.is("rule 11: " + deepest(method) + " goes " + depth + " deep", true, depth <= MAX_DEPTH);
            }
        }

        private int depth(Element method) {
            Integer known = depths.get(method);
            if (known != null) {
                Check.is("rule 8: recursion of " + method, false, known == 0);
                return known;
            }
            depths.put(method, 0); // until it is known: whoever meets this calls itself
            int depth = 0;
            for (Element called : calls.getOrDefault(method, Set.of())) {
                depth = Math.max(depth, depth(called));
            }
            depths.put(method, depth + 1);
            return depth + 1;
        }

        private String deepest(Element method) {
            String chain = method.getSimpleName().toString();
            for (Element called : calls.getOrDefault(method, Set.of())) {
                if (depths.get(called) == depths.get(method) - 1) {
                    return chain + " > " + deepest(called);
                }
            }
            return chain;
        }

        private static boolean isOwn(Element called) {
            return called.getEnclosingElement().toString().startsWith("ProgramDrum");
        }

        private Element here() {
            return trees.getElement(getCurrentPath());
        }

        private long line(Tree tree) {
            long start = trees.getSourcePositions().getStartPosition(unit, tree);
            return start == Diagnostic.NOPOS ? 0 : unit.getLineMap().getLineNumber(start);
        }

        private long end(Tree tree) {
            return trees.getSourcePositions().getEndPosition(unit, tree);
        }
    }
}
