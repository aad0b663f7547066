import com.sun.source.tree.ArrayTypeTree;
import com.sun.source.tree.BinaryTree;
import com.sun.source.tree.ClassTree;
import com.sun.source.tree.ForLoopTree;
import com.sun.source.tree.LiteralTree;
import com.sun.source.tree.MethodInvocationTree;
import com.sun.source.tree.MethodTree;
import com.sun.source.tree.NewArrayTree;
import com.sun.source.tree.NewClassTree;
import com.sun.source.tree.StatementTree;
import com.sun.source.tree.ThrowTree;
import com.sun.source.tree.Tree;
import com.sun.source.tree.TypeCastTree;
import com.sun.source.tree.VariableTree;
import com.sun.source.util.TreePath;
import com.sun.source.util.TreePathScanner;
import java.io.IOException;
import java.nio.file.Files;
import java.util.Set;
import java.util.TreeSet;
import javax.lang.model.element.Element;
import javax.lang.model.element.ExecutableElement;
import javax.lang.model.element.Modifier;
import javax.lang.model.element.TypeElement;
import javax.lang.model.type.TypeKind;
import javax.lang.model.type.TypeMirror;

/**
 * The rules of LANGUAGE.md that can be read off the program's trees; FaceTest looks at those of its members, DepthTest
 * at those of its calls. The program uses less than the rules allow: what it does not use is not in these lists.
 */
final class RulesTest extends TreePathScanner<Void, Void> {
    private static final int LONGEST_METHOD = 60;
    private static final int MOST_PARAMETERS = 7;
    private static final int MOST_CLASSES = 12;

    /** Rules 2, 6, 9 and 10: no lambda, local class, try, while or text that is joined by +. */
    private static final Set<String> KINDS = Set.of(
        "COMPILATION_UNIT", "CLASS", "METHOD", "MODIFIERS", "VARIABLE", "BLOCK", "EXPRESSION_STATEMENT", "IF",
        "FOR_LOOP", "SWITCH", "CASE", "CONSTANT_CASE_LABEL", "DEFAULT_CASE_LABEL", "RETURN", "BREAK",
        "CONTINUE", "THROW", "IDENTIFIER", "MEMBER_SELECT", "METHOD_INVOCATION", "NEW_CLASS", "NEW_ARRAY",
        "ARRAY_ACCESS", "ARRAY_TYPE", "PRIMITIVE_TYPE", "PARENTHESIZED", "TYPE_CAST", "CONDITIONAL_EXPRESSION",
        "ASSIGNMENT", "PLUS_ASSIGNMENT", "MINUS_ASSIGNMENT", "AND_ASSIGNMENT", "OR_ASSIGNMENT",
        "POSTFIX_INCREMENT", "POSTFIX_DECREMENT", "UNARY_MINUS", "LOGICAL_COMPLEMENT", "CONDITIONAL_AND",
        "CONDITIONAL_OR", "PLUS", "MINUS", "MULTIPLY", "DIVIDE", "REMAINDER", "AND", "OR", "LEFT_SHIFT",
        "RIGHT_SHIFT", "EQUAL_TO", "NOT_EQUAL_TO", "LESS_THAN", "LESS_THAN_EQUAL", "GREATER_THAN",
        "GREATER_THAN_EQUAL", "INT_LITERAL", "LONG_LITERAL", "BOOLEAN_LITERAL", "STRING_LITERAL",
        "NULL_LITERAL");

    /** Rule 4. */
    private static final Set<String> LIBRARY = Set.of("java.lang.Math.max", "java.lang.Math.min",
        "java.lang.Math.floorMod", "java.lang.Long.bitCount", "java.lang.Object.<init>");

    /** Rule 6: of those that it allows, the three that the document names. */
    private static final Set<String> EXCEPTIONS = Set.of("java.lang.IndexOutOfBoundsException",
        "java.lang.IllegalArgumentException", "java.lang.IllegalStateException");

    private final Source source;
    private int classes;

    private RulesTest(Source source) {
        this.source = source;
    }

    public static void main(String[] args) throws IOException {
        Source source = Source.read();
        RulesTest rules = new RulesTest(source);
        rules.scan(source.unit(), null);
        Checks.isTrue("rule 11: some twelve classes", rules.classes > 1 && rules.classes <= MOST_CLASSES);
        Checks.equal("no package", source.unit().getPackageName() == null ? 1 : 0, 1);
        Checks.equal("no imports", source.unit().getImports().size(), 0);
        Checks.isTrue("plain signs", Files.readString(Source.FILE).chars().allMatch(sign -> sign >= 1 && sign <= 127));
        Checks.end("RulesTest");
    }

    private void keeps(String rule, Tree tree, boolean holds) {
        long line = source.line(source.trees().getSourcePositions().getStartPosition(source.unit(), tree));
        Checks.isTrue("rule " + rule + ", line " + line, holds);
    }

    private Element elementOf(Tree tree) {
        return source.trees().getElement(TreePath.getPath(source.unit(), tree));
    }

    private TypeMirror typeOf(Tree tree) {
        return source.trees().getTypeMirror(TreePath.getPath(source.unit(), tree));
    }

    private static boolean isOwn(Element element) {
        return element.toString().startsWith("Millrace");
    }

    private boolean isInside(Tree.Kind kind) {
        for (TreePath path = getCurrentPath().getParentPath(); path != null; path = path.getParentPath()) {
            if (path.getLeaf().getKind() == kind) {
                return true;
            }
        }
        return false;
    }

    @Override
    public Void scan(Tree tree, Void unused) {
        if (tree != null) {
            keeps("2, 6, 9 or 10: " + tree.getKind(), tree, KINDS.contains(tree.getKind().name()));
        }
        return super.scan(tree, unused);
    }

    @Override
    public Void visitClass(ClassTree tree, Void unused) {
        classes++;
        boolean isInner = isInside(Tree.Kind.CLASS);
        keeps("2: a class stands in another one, static, or is the file's", tree,
            !isInner || tree.getModifiers().getFlags().contains(Modifier.STATIC)
            && getCurrentPath().getParentPath().getLeaf().getKind() == Tree.Kind.CLASS);
        for (Tree member : tree.getMembers()) {
            keeps("5: no block", member, member.getKind() != Tree.Kind.BLOCK);
        }
        return super.visitClass(tree, unused);
    }

    @Override
    public Void visitVariable(VariableTree tree, Void unused) {
        TypeMirror type = typeOf(tree);
        while (type.getKind() == TypeKind.ARRAY) {
            keeps("3: one dimension", tree, !(tree.getType() instanceof ArrayTypeTree array
                && array.getType() instanceof ArrayTypeTree));
            type = ((javax.lang.model.type.ArrayType) type).getComponentType();
        }
        keeps("3: its type is " + type, tree, type.getKind() == TypeKind.INT || type.getKind() == TypeKind.LONG
            || type.getKind() == TypeKind.BOOLEAN || type.toString().startsWith("Millrace"));
        Set<Modifier> flags = tree.getModifiers().getFlags();
        if (flags.contains(Modifier.STATIC)) {
            keeps("5: a constant", tree, flags.contains(Modifier.FINAL) && type.getKind() == TypeKind.INT
                && ((javax.lang.model.element.VariableElement) elementOf(tree)).getConstantValue() != null);
        }
        return super.visitVariable(tree, unused);
    }

    @Override
    public Void visitMethod(MethodTree tree, Void unused) {
        keeps("11: at most seven parameters", tree, tree.getParameters().size() <= MOST_PARAMETERS);
        long first = source.trees().getSourcePositions().getStartPosition(source.unit(), tree);
        long last = source.trees().getSourcePositions().getEndPosition(source.unit(), tree);
        keeps("11: short", tree, last < 0 || source.line(last) - source.line(first) < LONGEST_METHOD);
        return super.visitMethod(tree, unused);
    }

    @Override
    public Void visitMethodInvocation(MethodInvocationTree tree, Void unused) {
        ExecutableElement called = (ExecutableElement) elementOf(tree);
        TypeElement owner = (TypeElement) called.getEnclosingElement();
        keeps("4: " + owner + "." + called.getSimpleName(), tree,
            isOwn(owner) || LIBRARY.contains(owner + "." + called.getSimpleName()));
        return super.visitMethodInvocation(tree, unused);
    }

    @Override
    public Void visitNewClass(NewClassTree tree, Void unused) {
        Element made = elementOf(tree).getEnclosingElement();
        boolean isThrown = getCurrentPath().getParentPath().getLeaf().getKind() == Tree.Kind.THROW;
        keeps("4 and 6: a new " + made, tree, isThrown ? EXCEPTIONS.contains(made.toString()) : isOwn(made));
        keeps("2: no class without a name", tree, tree.getClassBody() == null);
        return super.visitNewClass(tree, unused);
    }

    @Override
    public Void visitThrow(ThrowTree tree, Void unused) {
        keeps("6: a new one is thrown", tree, tree.getExpression().getKind() == Tree.Kind.NEW_CLASS);
        for (Tree text : ((NewClassTree) tree.getExpression()).getArguments()) {
            keeps("6: with a written text", tree, text.getKind() == Tree.Kind.STRING_LITERAL);
        }
        for (TreePath path = getCurrentPath(); path != null; path = path.getParentPath()) {
            keeps("6: not in a constructor", tree, !(path.getLeaf() instanceof MethodTree method)
                || !method.getName().contentEquals("<init>"));
        }
        return super.visitThrow(tree, unused);
    }

    @Override
    public Void visitLiteral(LiteralTree tree, Void unused) {
        keeps("3: a text is only thrown", tree,
            tree.getKind() != Tree.Kind.STRING_LITERAL || isInside(Tree.Kind.THROW));
        return super.visitLiteral(tree, unused);
    }

    @Override
    public Void visitBinary(BinaryTree tree, Void unused) {
        Set<TypeKind> sides = new TreeSet<>(Set.of(typeOf(tree.getLeftOperand()).getKind()));
        sides.add(typeOf(tree.getRightOperand()).getKind());
        boolean isSame = tree.getKind() == Tree.Kind.EQUAL_TO || tree.getKind() == Tree.Kind.NOT_EQUAL_TO;
        keeps("10: of numbers, or whether it is the same", tree, isSame || !sides.contains(TypeKind.DECLARED));
        return super.visitBinary(tree, unused);
    }

    @Override
    public Void visitTypeCast(TypeCastTree tree, Void unused) {
        keeps("6: numbers alone are cast", tree, typeOf(tree).getKind().isPrimitive());
        return super.visitTypeCast(tree, unused);
    }

    @Override
    public Void visitNewArray(NewArrayTree tree, Void unused) {
        keeps("7: a constant length", tree, tree.getDimensions().size() == 1
            && elementOf(tree.getDimensions().get(0)) instanceof javax.lang.model.element.VariableElement length
            && length.getConstantValue() != null);
        return super.visitNewArray(tree, unused);
    }

    /** Rule 9: a counter that one step brings nearer to a bound, and that nothing else in the loop changes. */
    @Override
    public Void visitForLoop(ForLoopTree tree, Void unused) {
        boolean isCounted = tree.getInitializer().size() == 1 && tree.getUpdate().size() == 1
            && tree.getInitializer().get(0) instanceof VariableTree;
        keeps("9: one counter", tree, isCounted);
        if (isCounted) {
            String counter = ((VariableTree) tree.getInitializer().get(0)).getName().toString();
            String step = tree.getUpdate().get(0).toString();
            boolean rises = step.startsWith(counter + "++");
            String bound = tree.getCondition().toString();
            keeps("9: a step of " + counter, tree, rises || step.startsWith(counter + "--"));
            keeps("9: a bound for " + counter, tree, bound.startsWith(counter + (rises ? " <" : " >")));
            keeps("9: all bounds must hold", tree, !bound.contains("||"));
            StatementTree body = tree.getStatement();
            keeps("9: nothing else sets " + counter, tree, !body.toString().matches(
                "(?s).*\\b" + counter + "( [-+|&]?= |\\+\\+|--).*"));
        }
        return super.visitForLoop(tree, unused);
    }
}
