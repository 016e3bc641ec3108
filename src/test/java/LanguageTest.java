import com.sun.source.tree.AnnotationTree;
import com.sun.source.tree.AssertTree;
import com.sun.source.tree.BinaryTree;
import com.sun.source.tree.BlockTree;
import com.sun.source.tree.ClassTree;
import com.sun.source.tree.CompoundAssignmentTree;
import com.sun.source.tree.DoWhileLoopTree;
import com.sun.source.tree.ExpressionStatementTree;
import com.sun.source.tree.ExpressionTree;
import com.sun.source.tree.ForLoopTree;
import com.sun.source.tree.IdentifierTree;
import com.sun.source.tree.ImportTree;
import com.sun.source.tree.InstanceOfTree;
import com.sun.source.tree.LambdaExpressionTree;
import com.sun.source.tree.LiteralTree;
import com.sun.source.tree.MemberReferenceTree;
import com.sun.source.tree.MethodInvocationTree;
import com.sun.source.tree.MethodTree;
import com.sun.source.tree.NewArrayTree;
import com.sun.source.tree.NewClassTree;
import com.sun.source.tree.SwitchTree;
import com.sun.source.tree.SynchronizedTree;
import com.sun.source.tree.ThrowTree;
import com.sun.source.tree.Tree;
import com.sun.source.tree.TryTree;
import com.sun.source.tree.TypeCastTree;
import com.sun.source.tree.VariableTree;
import com.sun.source.tree.WhileLoopTree;
import com.sun.source.util.TreePath;
import com.sun.source.util.TreePathScanner;
import java.io.IOException;
import java.nio.file.Files;
import java.nio.file.Path;
import java.util.HashSet;
import java.util.List;
import java.util.Set;
import java.util.regex.Pattern;
import javax.lang.model.element.Element;
import javax.lang.model.element.Modifier;
import javax.lang.model.element.VariableElement;
import javax.lang.model.type.TypeKind;
import javax.lang.model.type.TypeMirror;

/**
 * The rules of ../shared/LANGUAGE.md, by their numbers and words, as far as javac's own reading of the source
 * shows them; where the class needs less than a rule leaves, no more than it needs is let through. That an index
 * or a divisor is looked at before it is used shows in runs (Check.isThrownByHouse). Run from the project's
 * root, as .ci/run does.
 */
final class LanguageTest {
    private static final Path RULES = Path.of("..", "shared", "LANGUAGE.md");
    private static final int MOST_PARAMETERS = 7, MOST_LINES = 60, MOST_CLASSES = 12, MOST_FIELDS = 20, MOST_DEEP = 8;
    private static final Pattern TYPES = Pattern.compile(
            "int|boolean|void|int\\[\\]|String|java\\.util\\.ArrayList<LightcurveHouse\\.\\w+>|LightcurveHouse(\\.\\w+)?");
    private static final Set<String> LIBRARY = Set.of("java.lang.Math.min", "java.lang.Math.max", "java.lang.Math.abs",
            "java.lang.Math.floorDiv", "java.lang.Math.floorMod", "java.lang.System.arraycopy",
            "java.util.ArrayList.add", "java.util.ArrayList.get", "java.util.ArrayList.size", "java.util.ArrayList.<init>",
            "java.lang.Object.<init>", "java.lang.IndexOutOfBoundsException.<init>",
            "java.lang.IllegalArgumentException.<init>", "java.lang.IllegalStateException.<init>");

    private static final Source SOURCE = Source.read();

    /** Goes through the whole file, and knows where it is. */
    private abstract static class Search extends TreePathScanner<Void, Void> {
        void wrong(Tree tree, String what) {
            Check.wrong("line " + SOURCE.line(tree) + ": " + what);
        }

        Element meant() {
            return SOURCE.element(getCurrentPath());
        }

        boolean isInside(Tree.Kind... kinds) {
            for (TreePath up = getCurrentPath().getParentPath(); up != null; up = up.getParentPath()) {
                if (Set.of(kinds).contains(up.getLeaf().getKind())) {
                    return true;
                }
            }
            return false;
        }

        boolean isInLoop() {
            return isInside(Tree.Kind.FOR_LOOP, Tree.Kind.ENHANCED_FOR_LOOP, Tree.Kind.WHILE_LOOP, Tree.Kind.DO_WHILE_LOOP);
        }

        MethodTree method() {
            TreePath up = getCurrentPath();
            while (up != null && up.getLeaf().getKind() != Tree.Kind.METHOD) {
                up = up.getParentPath();
            }
            return up == null ? null : (MethodTree) up.getLeaf();
        }
    }

    private LanguageTest() { }

    static void run() {
        rule(1, "No private method bears the name of a public one.", new Names());
        rule(2, "no local class that captures a variable, no lambda, no method reference", new Kinds());
        rule(3, "Types: int, long, short, byte, char, boolean", new Types());
        rule(4, "The library: only what stands here.", new Library());
        rule(5, "Static fields are final", new Statics());
        rule(6, "A call of the face throws exactly what and where the document says", new Throws());
        rule(7, "an index is looked at before it is used, a divisor before it divides", new Divisors());
        rule(8, "Recursion: a private static method that calls itself", new CallDepth.Recursion(SOURCE));
        rule(9, "Every loop has an end that can be seen from its own lines (a counter against a bound", new Loops());
        rule(10, "joining texts by StringBuilder (not by +)", new Joins());
        rule(11, "A method takes at most seven parameters. Methods stay short (some sixty lines), calls that are no "
                + "recursion go at most eight deep, the file has at most some twelve classes, and a class some twenty fields",
                new Sizes(), new CallDepth.Depth(SOURCE, MOST_DEEP));
        rule(12, "An object may be made by any method, and none in a loop without a bound.", new Makings());
        rule(13, "No clock, no randomness, no file, network, thread or environment", new Imports());
    }

    private static void rule(int number, String words, TreePathScanner<?, ?>... searches) {
        Check.test("language, rule " + number + ": " + words, () -> {
            Check.due("the rule says so", textOf(number).contains(words), true);
            for (TreePathScanner<?, ?> search : searches) {
                search.scan(new TreePath(SOURCE.unit), null);
            }
        });
    }

    private static String textOf(int rule) {
        try {
            for (String line : Files.readAllLines(RULES)) {
                if (line.startsWith(rule + ". ")) {
                    return line;
                }
            }
        } catch (IOException e) {
            Check.wrong("cannot read " + RULES);
        }
        return "";
    }

    /** Of every class in the file, though rule 1 may mean the public one alone. */
    private static final class Names extends Search {
        private final Set<String> face = new HashSet<>();

        @Override public Void visitClass(ClassTree tree, Void none) {
            Set<Modifier> flags = tree.getModifiers().getFlags();
            if (tree == SOURCE.house()) {
                Check.due("public and final", flags.equals(Set.of(Modifier.PUBLIC, Modifier.FINAL)), true);
                for (Tree member : tree.getMembers()) {
                    if (member instanceof MethodTree m && m.getModifiers().getFlags().contains(Modifier.PUBLIC)) {
                        face.add(m.getName().toString());
                    }
                }
            } else if (!flags.contains(Modifier.STATIC) || !flags.contains(Modifier.PRIVATE)) {
                wrong(tree, "a class inside is not private and static");
            }
            return super.visitClass(tree, none);
        }

        @Override public Void visitMethod(MethodTree tree, Void none) {
            Set<Modifier> flags = tree.getModifiers().getFlags();
            boolean isMaker = tree.getReturnType() == null;
            if (!isMaker && !flags.contains(Modifier.PUBLIC) && face.contains(tree.getName().toString())) {
                wrong(tree, tree.getName() + " bears the name of a public method");
            }
            boolean isOfHouse = getCurrentPath().getParentPath().getLeaf() == SOURCE.house();
            boolean isPublic = flags.contains(Modifier.PUBLIC);
            if (isOfHouse ? !isPublic && !flags.contains(Modifier.PRIVATE) : isPublic || flags.contains(Modifier.PROTECTED)) {
                wrong(tree, tree.getName() + " is visible");
            }
            return super.visitMethod(tree, none);
        }
    }

    private static final class Kinds extends Search {
        @Override public Void visitClass(ClassTree tree, Void none) {
            boolean isClass = tree.getKind() == Tree.Kind.CLASS;
            Tree around = getCurrentPath().getParentPath().getLeaf();
            if (!isClass || around != SOURCE.unit && around != SOURCE.house()) {
                wrong(tree, "another kind of class than a static nested one");
            }
            return super.visitClass(tree, none);
        }

        @Override public Void visitLambdaExpression(LambdaExpressionTree tree, Void none) {
            wrong(tree, "a lambda");
            return super.visitLambdaExpression(tree, none);
        }

        @Override public Void visitMemberReference(MemberReferenceTree tree, Void none) {
            wrong(tree, "a method reference");
            return super.visitMemberReference(tree, none);
        }

        @Override public Void visitAnnotation(AnnotationTree tree, Void none) {
            wrong(tree, "an annotation");
            return super.visitAnnotation(tree, none);
        }
    }

    private static final class Types extends Search {
        @Override public Void visitVariable(VariableTree tree, Void none) {
            look(tree, SOURCE.type(getCurrentPath()));
            return super.visitVariable(tree, none);
        }

        @Override public Void visitMethod(MethodTree tree, Void none) {
            if (tree.getReturnType() != null) {
                look(tree, SOURCE.type(new TreePath(getCurrentPath(), tree.getReturnType())));
            }
            return super.visitMethod(tree, none);
        }

        @Override public Void visitLiteral(LiteralTree tree, Void none) {
            if (tree.getValue() instanceof String text && text.chars().anyMatch(c -> c < 1 || c > 127)) {
                wrong(tree, "a text of other signs than 1 to 127");
            }
            return super.visitLiteral(tree, none);
        }

        private void look(Tree tree, TypeMirror type) {
            if (type == null || !TYPES.matcher(type.toString()).matches()) {
                wrong(tree, "the type " + type);
            }
        }
    }

    private static final class Library extends Search {
        @Override public Void visitMethodInvocation(MethodInvocationTree tree, Void none) {
            look(tree);
            return super.visitMethodInvocation(tree, none);
        }

        @Override public Void visitNewClass(NewClassTree tree, Void none) {
            look(tree);
            return super.visitNewClass(tree, none);
        }

        private void look(Tree tree) {
            String name = CallDepth.nameOf(meant());
            if (!CallDepth.isOwn(meant()) && !LIBRARY.contains(name)) {
                wrong(tree, "a call of " + name);
            }
        }
    }

    private static final class Statics extends Search {
        @Override public Void visitVariable(VariableTree tree, Void none) {
            Set<Modifier> flags = tree.getModifiers().getFlags();
            boolean isConstant = flags.contains(Modifier.FINAL)
                    && meant() instanceof VariableElement field && field.getConstantValue() != null;
            if (flags.contains(Modifier.STATIC) && !isConstant) {
                wrong(tree, tree.getName() + " is static and no constant");
            }
            if (flags.contains(Modifier.VOLATILE) || flags.contains(Modifier.TRANSIENT)) {
                wrong(tree, tree.getName() + " is volatile or transient");
            }
            return super.visitVariable(tree, none);
        }

        @Override public Void visitBlock(BlockTree tree, Void none) {
            if (getCurrentPath().getParentPath().getLeaf() instanceof ClassTree) {
                wrong(tree, "a block of a class");
            }
            return super.visitBlock(tree, none);
        }
    }

    private static final class Throws extends Search {
        private static final Pattern THROWN = Pattern.compile(
                "new (IndexOutOfBounds|IllegalArgument|IllegalState)Exception\\(\"[ -~]+\"\\)");

        @Override public Void visitThrow(ThrowTree tree, Void none) {
            if (!THROWN.matcher(tree.getExpression().toString()).matches()) {
                wrong(tree, "another throw");
            }
            if (method() == null || method().getReturnType() == null) {
                wrong(tree, "a throw in a constructor");
            }
            return super.visitThrow(tree, none);
        }

        @Override public Void visitTry(TryTree tree, Void none) {
            wrong(tree, "a try");
            return super.visitTry(tree, none);
        }

        @Override public Void visitSynchronized(SynchronizedTree tree, Void none) {
            wrong(tree, "synchronized");
            return super.visitSynchronized(tree, none);
        }

        @Override public Void visitAssert(AssertTree tree, Void none) {
            wrong(tree, "an assert");
            return super.visitAssert(tree, none);
        }

        @Override public Void visitTypeCast(TypeCastTree tree, Void none) {
            wrong(tree, "a cast");
            return super.visitTypeCast(tree, none);
        }

        @Override public Void visitInstanceOf(InstanceOfTree tree, Void none) {
            wrong(tree, "an instanceof");
            return super.visitInstanceOf(tree, none);
        }

        @Override public Void visitMethod(MethodTree tree, Void none) {
            if (Set.of("equals", "hashCode", "toString", "finalize", "clone").contains(tree.getName().toString())) {
                wrong(tree, "the method " + tree.getName());
            }
            return super.visitMethod(tree, none);
        }
    }

    /** What divides is a written number, but in the two methods that look at it. */
    private static final class Divisors extends Search {
        @Override public Void visitBinary(BinaryTree tree, Void none) {
            boolean isDivision = tree.getKind() == Tree.Kind.DIVIDE || tree.getKind() == Tree.Kind.REMAINDER;
            if (isDivision && !isWrittenNumber(tree.getRightOperand())) {
                wrong(tree, "a divisor that is not written");
            }
            return super.visitBinary(tree, none);
        }

        @Override public Void visitCompoundAssignment(CompoundAssignmentTree tree, Void none) {
            boolean isDivision = tree.getKind() == Tree.Kind.DIVIDE_ASSIGNMENT || tree.getKind() == Tree.Kind.REMAINDER_ASSIGNMENT;
            if (isDivision && !isWrittenNumber(tree.getExpression())) {
                wrong(tree, "a divisor that is not written");
            }
            return super.visitCompoundAssignment(tree, none);
        }

        @Override public Void visitMethodInvocation(MethodInvocationTree tree, Void none) {
            Tree around = getCurrentPath().getParentPath().getLeaf();
            if (tree.getMethodSelect().toString().matches("Math\\.floor(Div|Mod)")
                    && !around.toString().startsWith("divisor > 0 ? " + tree.getMethodSelect() + "(number, divisor) : ")) {
                wrong(tree, "a division whose divisor is not looked at");
            }
            return super.visitMethodInvocation(tree, none);
        }

        private static boolean isWrittenNumber(ExpressionTree divisor) {
            return divisor instanceof LiteralTree literal && literal.getValue() instanceof Integer number && number > 0;
        }
    }

    /** Each is a 'for' whose own lines hold its counter, the bound that ends it, and the way to it. */
    private static final class Loops extends Search {
        @Override public Void visitWhileLoop(WhileLoopTree tree, Void none) {
            wrong(tree, "a while without a counter");
            return super.visitWhileLoop(tree, none);
        }

        @Override public Void visitDoWhileLoop(DoWhileLoopTree tree, Void none) {
            wrong(tree, "a do without a counter");
            return super.visitDoWhileLoop(tree, none);
        }

        @Override public Void visitForLoop(ForLoopTree tree, Void none) {
            if (tree.getInitializer().size() != 1 || tree.getUpdate().size() != 1
                    || !(tree.getInitializer().get(0) instanceof VariableTree)) {
                wrong(tree, "not one counter");
            } else {
                String counter = ((VariableTree) tree.getInitializer().get(0)).getName().toString();
                look(tree, counter, tree.getUpdate().get(0));
            }
            return super.visitForLoop(tree, none);
        }

        private void look(ForLoopTree tree, String counter, ExpressionStatementTree update) {
            String way = update.getExpression().toString();
            boolean isUp = way.equals(counter + "++") && isHeld(tree.getCondition(), Tree.Kind.LESS_THAN, counter);
            boolean isDown = way.equals(counter + " = " + counter + " / 2")
                    && isHeld(tree.getCondition(), Tree.Kind.GREATER_THAN, counter);
            if (!isUp && !isDown) {
                wrong(tree, counter + " has no bound that it comes to");
            }
            if (isSetIn(tree.getStatement(), counter)) {
                wrong(tree, counter + " is set in the loop");
            }
        }

        /** Of several conditions joined by 'and' one is enough. */
        private static boolean isHeld(ExpressionTree condition, Tree.Kind kind, String counter) {
            if (!(condition instanceof BinaryTree pair)) {
                return false;
            }
            if (pair.getKind() == Tree.Kind.CONDITIONAL_AND) {
                return isHeld(pair.getLeftOperand(), kind, counter) || isHeld(pair.getRightOperand(), kind, counter);
            }
            return pair.getKind() == kind && pair.getLeftOperand().toString().equals(counter);
        }

        private static boolean isSetIn(Tree body, String counter) {
            String text = body.toString();
            String name = Pattern.quote(counter);
            return Pattern.compile("\\b" + name + " [-+*/%&|^<>]*=[^=]|\\b" + name + "(\\+\\+|--)|(\\+\\+|--)" + name + "\\b")
                    .matcher(text).find();
        }
    }

    private static final class Joins extends Search {
        @Override public Void visitBinary(BinaryTree tree, Void none) {
            if (tree.getKind() == Tree.Kind.PLUS && SOURCE.type(getCurrentPath()).getKind() == TypeKind.DECLARED) {
                wrong(tree, "texts joined by +");
            }
            return super.visitBinary(tree, none);
        }

        @Override public Void visitSwitch(SwitchTree tree, Void none) {
            TypeMirror type = SOURCE.type(new TreePath(getCurrentPath(), tree.getExpression()));
            if (type.getKind() != TypeKind.INT) {
                wrong(tree, "a switch on " + type);
            }
            return super.visitSwitch(tree, none);
        }
    }

    private static final class Sizes extends Search {
        private int classes = 0;

        @Override public Void visitClass(ClassTree tree, Void none) {
            classes++;
            if (classes > MOST_CLASSES) {
                wrong(tree, "class number " + classes);
            }
            int fields = 0;
            for (Tree member : tree.getMembers()) {
                fields += member instanceof VariableTree field && !field.getModifiers().getFlags().contains(Modifier.STATIC) ? 1 : 0;
            }
            if (fields > MOST_FIELDS) {
                wrong(tree, "a class of " + fields + " fields");
            }
            return super.visitClass(tree, none);
        }

        @Override public Void visitMethod(MethodTree tree, Void none) {
            if (tree.getParameters().size() > MOST_PARAMETERS) {
                wrong(tree, tree.getName() + " takes " + tree.getParameters().size() + " parameters");
            }
            if (SOURCE.isWritten(tree) && SOURCE.lines(tree) > MOST_LINES) {
                wrong(tree, tree.getName() + " has " + SOURCE.lines(tree) + " lines");
            }
            return super.visitMethod(tree, none);
        }
    }

    /** In a loop, only the constructor of the house makes something, as many as a constant tells. */
    private static final class Makings extends Search {
        @Override public Void visitNewClass(NewClassTree tree, Void none) {
            boolean isThrown = getCurrentPath().getParentPath().getLeaf() instanceof ThrowTree;
            boolean isOfMaker = method() != null && method().getReturnType() == null;
            if (!isThrown && !isOfMaker && isInLoop()) {
                wrong(tree, "an object made in a loop");
            }
            return super.visitNewClass(tree, none);
        }

        @Override public Void visitNewArray(NewArrayTree tree, Void none) {
            if (method() != null && method().getReturnType() != null) {
                wrong(tree, "a row made by a method");
            }
            return super.visitNewArray(tree, none);
        }
    }

    private static final class Imports extends Search {
        @Override public Void visitImport(ImportTree tree, Void none) {
            if (!tree.getQualifiedIdentifier().toString().equals("java.util.ArrayList")) {
                wrong(tree, "the import of " + tree.getQualifiedIdentifier());
            }
            return super.visitImport(tree, none);
        }

        @Override public Void visitIdentifier(IdentifierTree tree, Void none) {
            if (List.of("Thread", "Runtime", "Process", "ClassLoader").contains(tree.getName().toString())) {
                wrong(tree, "the name " + tree.getName());
            }
            return super.visitIdentifier(tree, none);
        }
    }
}
