import com.sun.source.tree.ArrayAccessTree;
import com.sun.source.tree.AssertTree;
import com.sun.source.tree.AssignmentTree;
import com.sun.source.tree.BinaryTree;
import com.sun.source.tree.BlockTree;
import com.sun.source.tree.CatchTree;
import com.sun.source.tree.ClassTree;
import com.sun.source.tree.CompoundAssignmentTree;
import com.sun.source.tree.DoWhileLoopTree;
import com.sun.source.tree.ExpressionTree;
import com.sun.source.tree.ForLoopTree;
import com.sun.source.tree.IdentifierTree;
import com.sun.source.tree.LambdaExpressionTree;
import com.sun.source.tree.LiteralTree;
import com.sun.source.tree.MemberReferenceTree;
import com.sun.source.tree.MemberSelectTree;
import com.sun.source.tree.MethodInvocationTree;
import com.sun.source.tree.MethodTree;
import com.sun.source.tree.NewArrayTree;
import com.sun.source.tree.NewClassTree;
import com.sun.source.tree.SwitchExpressionTree;
import com.sun.source.tree.SwitchTree;
import com.sun.source.tree.SynchronizedTree;
import com.sun.source.tree.ThrowTree;
import com.sun.source.tree.Tree;
import com.sun.source.tree.TryTree;
import com.sun.source.tree.UnaryTree;
import com.sun.source.tree.UnionTypeTree;
import com.sun.source.tree.VariableTree;
import com.sun.source.tree.WhileLoopTree;
import com.sun.source.util.TreePath;
import com.sun.source.util.TreePathScanner;
import java.io.IOException;
import java.nio.file.Path;
import java.util.Arrays;
import java.util.HashSet;
import java.util.List;
import java.util.Map;
import java.util.Set;
import javax.lang.model.element.Element;
import javax.lang.model.element.ElementKind;
import javax.lang.model.element.ExecutableElement;
import javax.lang.model.element.Modifier;
import javax.lang.model.element.NestingKind;
import javax.lang.model.element.TypeElement;
import javax.lang.model.element.VariableElement;
import javax.lang.model.type.ArrayType;
import javax.lang.model.type.DeclaredType;
import javax.lang.model.type.TypeKind;
import javax.lang.model.type.TypeMirror;

/**
 * What LANGUAGE.md rules out, rule by rule, as far as the compiler's tree of the program shows it; and answers made of
 * what the machine throws. Its argument: the source's path. What calls what is looked at by CallsTest.
 */
public final class LanguageTest {
    private static final Set<String> EXCEPTIONS = Set.of("IllegalStateException", "IllegalArgumentException",
        "IndexOutOfBoundsException", "ArithmeticException", "UnsupportedOperationException", "NoSuchElementException",
        "RuntimeException");
    /** Exceptions that the machine throws, and all above them, but those that a program's own throw may name. */
    private static final Set<String> MACHINE = Set.of("ArrayIndexOutOfBoundsException", "StringIndexOutOfBoundsException",
        "NullPointerException", "ClassCastException", "NegativeArraySizeException", "ArrayStoreException", "Exception",
        "Throwable", "Error", "StackOverflowError", "OutOfMemoryError", "VirtualMachineError");
    private static final Set<String> LISTS = Set.of("new", "add", "get", "set", "remove", "size", "isEmpty", "clear",
        "of", "iterator");
    /** The library of rule 4: the members of each class; of Integer, Long and Math the static ones are told apart. */
    private static final Map<String, Set<String>> LIBRARY = Map.of(
        "java.lang.String", Set.of("new", "length", "charAt", "isEmpty", "equals", "indexOf", "substring",
            "toCharArray"),
        "java.lang.StringBuilder", Set.of("new", "append", "charAt", "setCharAt", "setLength", "deleteCharAt",
            "reverse", "length", "toString"),
        "java.util.ArrayList", LISTS,
        "java.util.List", LISTS,
        "java.util.Collection", LISTS,
        "java.util.Iterator", Set.of("hasNext", "next"),
        "java.lang.Iterable", Set.of("iterator"),
        "java.lang.Comparable", Set.of("compareTo"),
        "java.lang.System", Set.of("arraycopy"),
        "java.util.Arrays", Set.of("copyOf", "copyOfRange", "fill"));
    private static final Set<String> NUMBERS = Set.of("java.lang.Integer", "java.lang.Long", "java.lang.Math");
    private static final Set<String> TYPES = Set.of("java.lang.String", "java.lang.StringBuilder", "java.lang.Integer",
        "java.util.ArrayList", "java.util.List", "java.util.Iterator", "java.lang.Iterable", "java.lang.Comparable");
    private static final Set<TypeKind> CONSTANTS = Set.of(TypeKind.INT, TypeKind.LONG, TypeKind.BOOLEAN, TypeKind.CHAR);
    private static final Set<TypeKind> ROWS = Set.of(TypeKind.INT, TypeKind.LONG, TypeKind.CHAR, TypeKind.BYTE);
    private static final Set<Tree.Kind> REALS = Set.of(Tree.Kind.PLUS, Tree.Kind.MINUS, Tree.Kind.MULTIPLY,
        Tree.Kind.DIVIDE, Tree.Kind.LESS_THAN, Tree.Kind.LESS_THAN_EQUAL, Tree.Kind.GREATER_THAN,
        Tree.Kind.GREATER_THAN_EQUAL, Tree.Kind.EQUAL_TO, Tree.Kind.NOT_EQUAL_TO);
    /** Of "some sixty lines", "some twelve classes", "some twenty fields" a little more is let pass. */
    private static final int MOST_LINES = 70, MOST_CLASSES = 13, MOST_FIELDS = 22, MOST_PARAMETERS = 7;

    private static Source source;
    private static int looked = 0;
    private static int broken = 0;
    private static int classes = 0;

    private static void check(boolean good, int rule, String what, Tree tree) {
        looked++;
        if (!good) {
            broken++;
            System.out.println("rule " + rule + ", line " + source.lineOf(tree) + ": " + what);
        }
    }

    // ---- rules 1, 2, 5 and 11: classes, fields, methods

    private static final class Members extends TreePathScanner<Void, Void> {
        private final Set<String> face = new HashSet<>();

        @Override
        public Void visitClass(ClassTree tree, Void none) {
            TypeElement type = (TypeElement) source.elementAt(getCurrentPath());
            classes++;
            if (type.getNestingKind() == NestingKind.TOP_LEVEL) {
                check(classes == 1 && type.getModifiers().contains(Modifier.PUBLIC), 1, "one public class", tree);
                noteFace(type);
            }
            check(!source.types.isSubtype(type.asType(), source.elements.getTypeElement("java.lang.Throwable")
                .asType()), 6, "no exception classes", tree);
            int fields = 0;
            for (Tree member : tree.getMembers()) {
                if (member instanceof VariableTree && !isStatic(member)) {
                    fields++;
                }
                check(!(member instanceof BlockTree) || !((BlockTree) member).isStatic(), 5, "no static block", tree);
            }
            check(fields <= MOST_FIELDS, 11, "some twenty fields", tree);
            return super.visitClass(tree, none);
        }

        private void noteFace(TypeElement type) {
            for (Element member : type.getEnclosedElements()) {
                if (member.getKind() == ElementKind.METHOD && member.getModifiers().contains(Modifier.PUBLIC)) {
                    face.add(member.getSimpleName().toString());
                }
            }
        }

        private boolean isStatic(Tree member) {
            return source.elementAt(new TreePath(getCurrentPath(), member)).getModifiers().contains(Modifier.STATIC);
        }

        @Override
        public Void visitMethod(MethodTree tree, Void none) {
            Set<Modifier> modifiers = tree.getModifiers().getFlags();
            String name = tree.getName().toString();
            check(!modifiers.contains(Modifier.PRIVATE) || !face.contains(name), 1,
                "a private method named as a public one: " + name, tree);
            check(!modifiers.contains(Modifier.SYNCHRONIZED) && !modifiers.contains(Modifier.NATIVE), 6,
                "not synchronized", tree);
            check(tree.getThrows().isEmpty(), 6, "throws nothing that must be told", tree);
            check(tree.getParameters().size() <= MOST_PARAMETERS, 11, "seven parameters at most", tree);
            check(source.lastLineOf(tree) - source.lineOf(tree) < MOST_LINES, 11, "methods are short", tree);
            check(tree.getReturnType() == null || isAllowed(source.typeOf(getCurrentPath(), tree.getReturnType())), 3,
                "the type of " + name, tree);
            return super.visitMethod(tree, none);
        }

        @Override
        public Void visitVariable(VariableTree tree, Void none) {
            VariableElement field = (VariableElement) source.elementAt(getCurrentPath());
            boolean isCaught = field.getKind() == ElementKind.EXCEPTION_PARAMETER;
            check(isCaught || isAllowed(field.asType()), 3, "the type of " + tree.getName(), tree);
            if (field.getKind() == ElementKind.FIELD && field.getModifiers().contains(Modifier.STATIC)) {
                check(isConstant(field, tree.getInitializer()), 5, "no constant: " + tree.getName(), tree);
            }
            return super.visitVariable(tree, none);
        }

        private boolean isConstant(VariableElement field, ExpressionTree value) {
            if (!field.getModifiers().contains(Modifier.FINAL) || value == null) {
                return false;
            }
            TypeMirror type = field.asType();
            if (type.getKind() != TypeKind.ARRAY) {
                return field.getConstantValue() != null
                    && (CONSTANTS.contains(type.getKind()) || source.isA(type, "java.lang.String"));
            }
            TypeMirror element = ((ArrayType) type).getComponentType();
            boolean isWritten = value instanceof NewArrayTree && ((NewArrayTree) value).getInitializers() != null;
            return isWritten ? ROWS.contains(element.getKind())
                : value instanceof MethodInvocationTree && value.toString().endsWith("values()");
        }
    }

    /** Rule 3: whether a field, a variable or an answer may be of this type. */
    private static boolean isAllowed(TypeMirror type) {
        if (type.getKind().isPrimitive() || type.getKind() == TypeKind.VOID || type.getKind() == TypeKind.TYPEVAR
            || type.getKind() == TypeKind.WILDCARD) {
            return true;
        }
        if (type.getKind() == TypeKind.ARRAY) {
            TypeMirror element = ((ArrayType) type).getComponentType();
            if (element.getKind() == TypeKind.ARRAY) {
                TypeMirror inner = ((ArrayType) element).getComponentType();
                return inner.getKind().isPrimitive() && inner.getKind() != TypeKind.BOOLEAN;
            }
            return element.getKind().isPrimitive() || source.isOwn(source.types.asElement(element));
        }
        if (type.getKind() != TypeKind.DECLARED) {
            return false;
        }
        for (TypeMirror argument : ((DeclaredType) type).getTypeArguments()) {
            if (!isAllowed(argument) || source.isA(argument, "java.lang.String")) {
                return false;
            }
        }
        return source.isOwn(source.types.asElement(type)) || TYPES.contains(source.nameOf(type));
    }

    // ---- rules 2, 6 and 9: what a program may not be made of

    private static final class Statements extends TreePathScanner<Void, Void> {
        @Override
        public Void visitLambdaExpression(LambdaExpressionTree tree, Void none) {
            check(false, 2, "no lambda", tree);
            return super.visitLambdaExpression(tree, none);
        }

        @Override
        public Void visitMemberReference(MemberReferenceTree tree, Void none) {
            check(false, 2, "no method reference", tree);
            return super.visitMemberReference(tree, none);
        }

        @Override
        public Void visitIdentifier(IdentifierTree tree, Void none) {
            Element one = source.elementAt(getCurrentPath());
            boolean isLocal = one != null && (one.getKind() == ElementKind.LOCAL_VARIABLE
                || one.getKind() == ElementKind.PARAMETER);
            for (TreePath path = getCurrentPath(); isLocal && path != null; path = path.getParentPath()) {
                if (path.getLeaf() instanceof MethodTree && source.elementAt(path) == one.getEnclosingElement()) {
                    break;
                }
                boolean captures = path.getLeaf() instanceof ClassTree
                    && ((TypeElement) source.elementAt(path)).getNestingKind() == NestingKind.LOCAL;
                check(!captures, 2, "a local class captures " + tree.getName(), tree);
            }
            return super.visitIdentifier(tree, none);
        }

        @Override
        public Void visitSynchronized(SynchronizedTree tree, Void none) {
            check(false, 6, "no synchronized", tree);
            return super.visitSynchronized(tree, none);
        }

        @Override
        public Void visitAssert(AssertTree tree, Void none) {
            check(false, 6, "no assert", tree);
            return super.visitAssert(tree, none);
        }

        @Override
        public Void visitTry(TryTree tree, Void none) {
            check(tree.getFinallyBlock() == null, 6, "no finally", tree);
            check(tree.getResources().isEmpty(), 6, "no try with resources", tree);
            check(!holdsThrow(method()), 6, "no try in a method that throws", tree);
            return super.visitTry(tree, none);
        }

        private TreePath method() {
            TreePath path = getCurrentPath();
            while (path.getParentPath() != null && !(path.getLeaf() instanceof MethodTree)) {
                path = path.getParentPath();
            }
            return path;
        }

        private boolean holdsThrow(TreePath method) {
            boolean[] met = {false};
            new TreePathScanner<Void, Void>() {
                @Override
                public Void visitThrow(ThrowTree tree, Void none) {
                    met[0] = true;
                    return null;
                }
            }.scan(method, null);
            return met[0];
        }

        @Override
        public Void visitCatch(CatchTree tree, Void none) {
            Tree type = tree.getParameter().getType();
            List<? extends Tree> caught = type instanceof UnionTypeTree ? ((UnionTypeTree) type).getTypeAlternatives()
                : List.of(type);
            for (Tree one : caught) {
                check(EXCEPTIONS.contains(one.toString()), 6, "none of these classes: " + one, tree);
                check(!MACHINE.contains(one.toString()), 6, "what the machine throws is caught: " + one, tree);
            }
            String name = tree.getParameter().getName().toString();
            new TreePathScanner<Void, Void>() {
                @Override
                public Void visitIdentifier(IdentifierTree used, Void none) {
                    check(!used.getName().contentEquals(name), 6, "a catch leaves the exception alone", used);
                    return null;
                }
            }.scan(new TreePath(getCurrentPath(), tree.getBlock()), null);
            return super.visitCatch(tree, none);
        }

        @Override
        public Void visitThrow(ThrowTree tree, Void none) {
            boolean isMade = tree.getExpression() instanceof NewClassTree;
            check(isMade, 6, "throw new, and no more", tree);
            if (isMade) {
                NewClassTree made = (NewClassTree) tree.getExpression();
                check(EXCEPTIONS.contains(made.getIdentifier().toString()), 6, "none of these: " + made, tree);
                check(made.getArguments().isEmpty() || made.getArguments().size() == 1
                    && made.getArguments().get(0).getKind() == Tree.Kind.STRING_LITERAL, 6, "a written text", tree);
            }
            Element method = source.elementAt(method());
            check(method == null || method.getKind() != ElementKind.CONSTRUCTOR, 6, "no throw in a constructor", tree);
            return super.visitThrow(tree, none);
        }

        @Override
        public Void visitWhileLoop(WhileLoopTree tree, Void none) {
            checkEnds(tree.getCondition(), tree);
            return super.visitWhileLoop(tree, none);
        }

        @Override
        public Void visitDoWhileLoop(DoWhileLoopTree tree, Void none) {
            checkEnds(tree.getCondition(), tree);
            return super.visitDoWhileLoop(tree, none);
        }

        @Override
        public Void visitForLoop(ForLoopTree tree, Void none) {
            checkEnds(tree.getCondition(), tree);
            return super.visitForLoop(tree, none);
        }

        private void checkEnds(ExpressionTree condition, Tree loop) {
            boolean isOpen = condition == null || condition.toString().replaceAll("[()]", "").equals("true");
            check(!isOpen, 9, "the loop has an end", loop);
        }
    }

    // ---- rules 3, 5, 6 and 10: what is done with values

    private static final class Values extends TreePathScanner<Void, Void> {
        private boolean isText(Tree tree) {
            return source.isA(source.typeOf(getCurrentPath(), tree), "java.lang.String");
        }

        private boolean isBoxed(Tree tree) {
            return source.isA(source.typeOf(getCurrentPath(), tree), "java.lang.Integer");
        }

        private boolean isReal(Tree tree) {
            return source.isReal(source.typeOf(getCurrentPath(), tree));
        }

        @Override
        public Void visitBinary(BinaryTree tree, Void none) {
            Tree left = tree.getLeftOperand();
            Tree right = tree.getRightOperand();
            boolean isSame = tree.getKind() == Tree.Kind.EQUAL_TO || tree.getKind() == Tree.Kind.NOT_EQUAL_TO;
            check(!isSame || !(isText(left) && isText(right)), 6, "no == of texts", tree);
            check(!isSame || !(isBoxed(left) && isBoxed(right)), 6, "no == of Integers", tree);
            check(tree.getKind() != Tree.Kind.PLUS || !isText(left) && !isText(right), 10, "no + of texts", tree);
            check(!isReal(left) && !isReal(right) || REALS.contains(tree.getKind()), 3, "not on doubles", tree);
            return super.visitBinary(tree, none);
        }

        @Override
        public Void visitCompoundAssignment(CompoundAssignmentTree tree, Void none) {
            check(!isText(tree.getVariable()), 10, "no += of texts", tree);
            boolean isReal = isReal(tree.getVariable()) || isReal(tree.getExpression());
            check(!isReal || tree.getKind() != Tree.Kind.REMAINDER_ASSIGNMENT, 3, "not on doubles", tree);
            checkRow(tree.getVariable());
            return super.visitCompoundAssignment(tree, none);
        }

        @Override
        public Void visitAssignment(AssignmentTree tree, Void none) {
            checkRow(tree.getVariable());
            return super.visitAssignment(tree, none);
        }

        @Override
        public Void visitUnary(UnaryTree tree, Void none) {
            switch (tree.getKind()) {
                case PREFIX_INCREMENT:
                case PREFIX_DECREMENT:
                case POSTFIX_INCREMENT:
                case POSTFIX_DECREMENT:
                    checkRow(tree.getExpression());
                    break;
                default:
            }
            return super.visitUnary(tree, none);
        }

        private void checkRow(ExpressionTree changed) {
            if (changed instanceof ArrayAccessTree) {
                Tree row = ((ArrayAccessTree) changed).getExpression();
                Element field = source.elementAt(new TreePath(getCurrentPath(), row));
                boolean isStatic = field != null && field.getModifiers().contains(Modifier.STATIC);
                check(!isStatic, 5, "a constant row is changed", changed);
            }
        }

        @Override
        public Void visitSwitch(SwitchTree tree, Void none) {
            check(!isText(tree.getExpression()), 10, "no switch on texts", tree);
            return super.visitSwitch(tree, none);
        }

        @Override
        public Void visitSwitchExpression(SwitchExpressionTree tree, Void none) {
            check(!isText(tree.getExpression()), 10, "no switch on texts", tree);
            return super.visitSwitchExpression(tree, none);
        }

        @Override
        public Void visitLiteral(LiteralTree tree, Void none) {
            if (tree.getValue() instanceof String) {
                for (char sign : ((String) tree.getValue()).toCharArray()) {
                    check(sign >= 1 && sign <= 127, 4, "a constant text of signs 1 to 127", tree);
                }
            }
            return super.visitLiteral(tree, none);
        }
    }

    // ---- rules 4, 6 and 13: what is used of the library

    private static final class Library extends TreePathScanner<Void, Void> {
        @Override
        public Void visitNewClass(NewClassTree tree, Void none) {
            Element maker = source.elementAt(getCurrentPath());
            boolean isException = EXCEPTIONS.contains(tree.getIdentifier().toString());
            check(isException || isKnown(maker, "new"), 4, "not in the library: " + tree, tree);
            return super.visitNewClass(tree, none);
        }

        @Override
        public Void visitMethodInvocation(MethodInvocationTree tree, Void none) {
            ExecutableElement called = (ExecutableElement) source.elementAt(getCurrentPath());
            String name = called.getSimpleName().toString();
            boolean isOfRow = name.equals("clone") && tree.getMethodSelect() instanceof MemberSelectTree
                && source.typeOf(getCurrentPath(), ((MemberSelectTree) tree.getMethodSelect()).getExpression())
                    .getKind() == TypeKind.ARRAY;
            check(isOfRow || name.equals("<init>") || isKnown(called, name), 4, "not in the library: " + tree, tree);
            boolean isReal = source.isReal(called.getReturnType());
            check(source.isOwn(called) || !isReal, 3, "no Math on doubles: " + tree, tree);
            return super.visitMethodInvocation(tree, none);
        }

        private boolean isKnown(Element member, String name) {
            Element owner = member.getEnclosingElement();
            if (source.isOwn(owner)) {
                return true;
            }
            String type = owner instanceof TypeElement ? ((TypeElement) owner).getQualifiedName().toString() : "";
            if (NUMBERS.contains(type)) {
                return member.getModifiers().contains(Modifier.STATIC) && !name.endsWith("Exact")
                    && !name.equals("random");
            }
            return LIBRARY.getOrDefault(type, Set.of()).contains(name);
        }

        @Override
        public Void visitMemberSelect(MemberSelectTree tree, Void none) {
            Element field = source.elementAt(getCurrentPath());
            boolean isField = field != null && field.getKind() == ElementKind.FIELD;
            boolean isOfRow = isField && tree.getIdentifier().contentEquals("length");
            boolean isBound = isField && Set.of("MAX_VALUE", "MIN_VALUE").contains(tree.getIdentifier().toString());
            check(!isField || isOfRow || isBound || source.isOwn(field) || tree.getIdentifier().contentEquals("class"),
                4, "not in the library: " + tree, tree);
            return super.visitMemberSelect(tree, none);
        }
    }

    public static void main(String[] args) throws IOException {
        source = new Source(Path.of(args[0]));
        check(source.unit.getPackageName() == null, 1, "no package line", source.unit);
        check(source.unit.getTypeDecls().size() == 1, 1, "one public class with the others inside", source.unit);
        for (TreePathScanner<Void, Void> rules : Arrays.asList(new Members(), new Statements(), new Values(),
            new Library())) {
            rules.scan(source.unit, null);
        }
        check(classes <= MOST_CLASSES, 11, "some twelve classes", source.unit);
        System.out.println("LanguageTest: " + looked + " looked at, " + broken + " out of the rules");
        if (broken != 0) {
            System.exit(1);
        }
    }
}
