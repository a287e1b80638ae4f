import com.sun.source.tree.ArrayTypeTree;
import com.sun.source.tree.AssertTree;
import com.sun.source.tree.BinaryTree;
import com.sun.source.tree.BlockTree;
import com.sun.source.tree.ClassTree;
import com.sun.source.tree.CompilationUnitTree;
import com.sun.source.tree.CompoundAssignmentTree;
import com.sun.source.tree.DoWhileLoopTree;
import com.sun.source.tree.EnhancedForLoopTree;
import com.sun.source.tree.ExpressionTree;
import com.sun.source.tree.ForLoopTree;
import com.sun.source.tree.IdentifierTree;
import com.sun.source.tree.ImportTree;
import com.sun.source.tree.InstanceOfTree;
import com.sun.source.tree.LambdaExpressionTree;
import com.sun.source.tree.LiteralTree;
import com.sun.source.tree.MemberReferenceTree;
import com.sun.source.tree.MemberSelectTree;
import com.sun.source.tree.MethodInvocationTree;
import com.sun.source.tree.MethodTree;
import com.sun.source.tree.NewArrayTree;
import com.sun.source.tree.NewClassTree;
import com.sun.source.tree.StatementTree;
import com.sun.source.tree.SynchronizedTree;
import com.sun.source.tree.ThrowTree;
import com.sun.source.tree.Tree;
import com.sun.source.tree.TryTree;
import com.sun.source.tree.TypeCastTree;
import com.sun.source.tree.UnaryTree;
import com.sun.source.tree.VariableTree;
import com.sun.source.tree.WhileLoopTree;
import com.sun.source.util.JavacTask;
import com.sun.source.util.TreePath;
import com.sun.source.util.TreePathScanner;
import com.sun.source.util.TreeScanner;
import com.sun.source.util.Trees;
import java.io.IOException;
import java.nio.file.Files;
import java.nio.file.Path;
import java.util.HashMap;
import java.util.HashSet;
import java.util.List;
import java.util.Map;
import java.util.Set;
import java.util.TreeSet;
import java.util.regex.Matcher;
import java.util.regex.Pattern;
import javax.lang.model.element.Element;
import javax.lang.model.element.ElementKind;
import javax.lang.model.element.Modifier;
import javax.lang.model.element.TypeElement;
import javax.lang.model.element.VariableElement;
import javax.lang.model.type.TypeMirror;
import javax.tools.JavaCompiler;
import javax.tools.StandardJavaFileManager;
import javax.tools.ToolProvider;

/** LANGUAGE.md, rule by rule, over the tree that javac makes of the class, and the document's face. */
public final class LanguageTest {
    private static final Path SOURCE = Path.of("src/main/java/WhosePage.java");
    private static final Path DOCUMENT = Path.of("../shared/DOC.md");
    private static final Pattern FACE_METHOD = Pattern.compile("    public (\\w+) (\\w+)\\(([^)]*)\\);");
    private static final Set<String> OTHER_TYPES = Set.of("int", "long", "boolean", "char", "void",
            "int[]", "long[]", "boolean[]", "char[]", "java.lang.String");
    private static final Set<String> CONSTANT_TYPES = Set.of("int", "long", "boolean", "char", "java.lang.String");
    /** Of what rule 4 allows, that which the class uses: a call more is looked at by hand first. */
    private static final Set<String> LIBRARY = Set.of("String.length", "String.indexOf", "Math.max", "Math.min",
            "System.arraycopy", "Arrays.fill");
    private static final Set<String> NAMES_OF_ALL_OBJECTS = Set.of("equals", "hashCode", "toString", "finalize",
            "clone", "getClass", "notify", "wait");
    private static final int LONGEST_METHOD = 60;
    private static final int MOST_CLASSES = 12;
    private static final int MOST_FIELDS = 20;
    private static final int MOST_PARAMETERS = 7;
    private static final int DEEPEST = 8;

    private final CompilationUnitTree unit;
    private final Trees trees;
    private final Set<String> faceNames = new TreeSet<>();
    private final Map<String, Set<String>> calls = new HashMap<>();
    private int classes = 0;

    private LanguageTest(CompilationUnitTree unit, Trees trees) {
        this.unit = unit;
        this.trees = trees;
    }

    public static void main(String[] args) throws IOException {
        JavaCompiler compiler = ToolProvider.getSystemJavaCompiler();
        try (StandardJavaFileManager files = compiler.getStandardFileManager(null, null, null)) {
            JavacTask task = (JavacTask) compiler.getTask(null, files, null, List.of("-proc:none"), null,
                    files.getJavaFileObjects(SOURCE));
            CompilationUnitTree unit = task.parse().iterator().next();
            task.analyze();
            new LanguageTest(unit, Trees.instance(task)).test();
        }
        Check.end();
    }

    private void test() throws IOException {
        Check.holds("rule 1: no package line", unit.getPackageName() == null);
        Check.due("rule 1: one class on the outside", unit.getTypeDecls().size(), 1);
        for (ImportTree used : unit.getImports()) {
            Check.holds("rule 4: " + used, used.toString().strip().equals("import java.util.Arrays;"));
        }
        face();
        new Rules().scan(unit, null);
        Check.holds("rule 11: " + classes + " classes", classes <= MOST_CLASSES);
        for (String method : calls.keySet()) {
            int deep = depth(method, new HashSet<>());
            Check.holds("rule 11: calls from " + method + " go " + deep + " deep", deep <= DEEPEST);
        }
        Check.holds("texts hold signs 1 to 127", Files.readString(SOURCE).chars().allMatch(c -> c < 128));
    }

    // ---- rule 1

    private void face() throws IOException {
        Set<String> due = new TreeSet<>();
        Matcher told = FACE_METHOD.matcher(Files.readString(DOCUMENT));
        while (told.find()) {
            String parameters = told.group(3).replaceAll("(\\w+) \\w+", "$1").replace(" ", "");
            due.add(told.group(1) + " " + told.group(2) + "(" + parameters + ")");
            faceNames.add(told.group(2));
        }
        Check.due("methods of the face", due.size(), 32);
        Set<String> is = new TreeSet<>();
        int constructors = 0;
        ClassTree page = (ClassTree) unit.getTypeDecls().get(0);
        Element of = elementOf(page);
        Check.holds("rule 1: WhosePage is public and final",
                of.getModifiers().equals(Set.of(Modifier.PUBLIC, Modifier.FINAL)));
        for (Element member : of.getEnclosedElements()) {
            boolean isPublic = member.getModifiers().contains(Modifier.PUBLIC);
            boolean isPrivate = member.getModifiers().contains(Modifier.PRIVATE);
            if (member.getKind() == ElementKind.CONSTRUCTOR) {
                constructors++;
                Check.holds("rule 1: constructor " + member, isPublic && member.toString().equals("WhosePage()"));
            } else if (member.getKind() == ElementKind.METHOD && isPublic) {
                is.add(member.asType().toString().replaceAll("\\(.*\\)", "") + " " + member);
            } else {
                Check.holds("rule 1: " + member + " is private", isPrivate);
            }
        }
        Check.due("rule 1: one constructor", constructors, 1);
        Check.holds("rule 1: the face " + is + " is that of the document " + due, is.equals(due));
    }

    private Element elementOf(Tree tree) {
        return trees.getElement(TreePath.getPath(unit, tree));
    }

    private TypeMirror typeOf(Tree tree) {
        return trees.getTypeMirror(TreePath.getPath(unit, tree));
    }

    private static boolean isOwn(Element element) {
        for (Element e = element; e != null; e = e.getEnclosingElement()) {
            if (e.getKind() == ElementKind.CLASS && e.getSimpleName().contentEquals("WhosePage")) {
                return true;
            }
        }
        return false;
    }

    // ---- rule 8 and rule 11

    private int depth(String method, Set<String> open) {
        if (!open.add(method)) {
            Check.holds("rule 8: " + method + " does not call itself", false);
            return 0;
        }
        int deepest = 0;
        for (String called : calls.getOrDefault(method, Set.of())) {
            deepest = Math.max(deepest, depth(called, open));
        }
        open.remove(method);
        return deepest + 1;
    }

    private long linesOf(Tree tree) {
        long from = trees.getSourcePositions().getStartPosition(unit, tree);
        long to = trees.getSourcePositions().getEndPosition(unit, tree);
        return unit.getLineMap().getLineNumber(to) - unit.getLineMap().getLineNumber(from) + 1;
    }

    private final class Rules extends TreePathScanner<Void, Void> {
        private String method = "";
        private boolean inConstructor = false;

        private void ruledOut(int rule, Tree tree) {
            Check.holds("rule " + rule + ": line " + unit.getLineMap().getLineNumber(
                    trees.getSourcePositions().getStartPosition(unit, tree)) + ": " + tree, false);
        }

        private void check(int rule, Tree tree, boolean holds) {
            if (holds) {
                Check.holds("", true);
            } else {
                ruledOut(rule, tree);
            }
        }

        @Override
        public Void visitClass(ClassTree tree, Void none) {
            classes++;
            TypeElement of = (TypeElement) elementOf(tree);
            if (of.getEnclosingElement().getKind() != ElementKind.PACKAGE) {
                check(2, tree, of.getModifiers().contains(Modifier.STATIC)
                        && of.getEnclosingElement().getKind() == ElementKind.CLASS);
                check(1, tree, !of.getModifiers().contains(Modifier.PUBLIC)
                        && !of.getModifiers().contains(Modifier.PROTECTED));
            }
            int fields = 0;
            for (Tree member : tree.getMembers()) {
                check(5, member, !(member instanceof BlockTree));
                if (member instanceof VariableTree) {
                    fields += isStatic(member) ? 0 : 1;
                    check(5, member, !isStatic(member) || isConstant(member));
                }
            }
            Check.holds("rule 11: " + fields + " fields in " + of, fields <= MOST_FIELDS);
            return super.visitClass(tree, none);
        }

        private boolean isStatic(Tree tree) {
            return elementOf(tree).getModifiers().contains(Modifier.STATIC);
        }

        private boolean isConstant(Tree tree) {
            VariableElement field = (VariableElement) elementOf(tree);
            return field.getConstantValue() != null && CONSTANT_TYPES.contains(field.asType().toString());
        }

        @Override
        public Void visitMethod(MethodTree tree, Void none) {
            Element of = elementOf(tree);
            method = of.getEnclosingElement() + "." + of;
            inConstructor = of.getKind() == ElementKind.CONSTRUCTOR;
            calls.putIfAbsent(method, new TreeSet<>());
            String name = tree.getName().toString();
            boolean ofTheFace = of.getEnclosingElement().toString().equals("WhosePage")
                    && of.getModifiers().contains(Modifier.PUBLIC);
            check(1, tree, ofTheFace || !faceNames.contains(name));
            check(6, tree, !NAMES_OF_ALL_OBJECTS.contains(name) && tree.getThrows().isEmpty());
            check(11, tree, tree.getParameters().size() <= MOST_PARAMETERS && linesOf(tree) <= LONGEST_METHOD);
            if (tree.getReturnType() != null) {
                check(3, tree, isAllowed(typeOf(tree.getReturnType())));
            }
            super.visitMethod(tree, none);
            method = "";
            inConstructor = false;
            return null;
        }

        private boolean isAllowed(TypeMirror type) {
            String name = type.toString();
            return OTHER_TYPES.contains(name) || name.matches("WhosePage\\.\\w+(\\[\\])?");
        }

        @Override
        public Void visitVariable(VariableTree tree, Void none) {
            check(3, tree, isAllowed(elementOf(tree).asType()));
            return super.visitVariable(tree, none);
        }

        @Override
        public Void visitMethodInvocation(MethodInvocationTree tree, Void none) {
            Element called = trees.getElement(getCurrentPath());
            if (called.getKind() == ElementKind.CONSTRUCTOR) {
                check(12, tree, tree.getArguments().isEmpty());
            } else {
                calls.computeIfAbsent(method, m -> new TreeSet<>()).add(called.getEnclosingElement() + "." + called);
                check(12, tree, !inConstructor);
                String name = called.getEnclosingElement().getSimpleName() + "." + called.getSimpleName();
                check(4, tree, isOwn(called) || LIBRARY.contains(name));
            }
            return super.visitMethodInvocation(tree, none);
        }

        @Override
        public Void visitMemberSelect(MemberSelectTree tree, Void none) {
            Element of = trees.getElement(getCurrentPath());
            boolean isField = of != null && of.getKind() == ElementKind.FIELD;
            check(4, tree, !isField || isOwn(of) || tree.getIdentifier().contentEquals("length"));
            return super.visitMemberSelect(tree, none);
        }

        @Override
        public Void visitBinary(BinaryTree tree, Void none) {
            boolean texts = trees.getTypeMirror(getCurrentPath()).toString().equals("java.lang.String");
            check(10, tree, !(tree.getKind() == Tree.Kind.PLUS && texts));
            boolean alike = tree.getKind() == Tree.Kind.EQUAL_TO || tree.getKind() == Tree.Kind.NOT_EQUAL_TO;
            check(6, tree, !alike || !isText(tree.getLeftOperand()) && !isText(tree.getRightOperand()));
            boolean divides = tree.getKind() == Tree.Kind.DIVIDE || tree.getKind() == Tree.Kind.REMAINDER;
            check(7, tree, !divides || isLookedAt(tree.getRightOperand()));
            return super.visitBinary(tree, none);
        }

        private boolean isText(Tree tree) {
            String type = String.valueOf(typeOf(tree));
            return type.equals("java.lang.String") || type.equals("java.lang.Integer");
        }

        /** A divisor is a constant other than 0, or the number that vain() has looked at. */
        private boolean isLookedAt(ExpressionTree divisor) {
            if (elementOf(divisor) instanceof VariableElement named && named.getConstantValue() instanceof Integer n) {
                return n != 0;
            }
            return method.startsWith("WhosePage.vain(") && divisor.toString().equals("each");
        }

        @Override
        public Void visitCompoundAssignment(CompoundAssignmentTree tree, Void none) {
            check(10, tree, !isText(tree.getVariable()));
            check(7, tree, tree.getKind() != Tree.Kind.DIVIDE_ASSIGNMENT
                    && tree.getKind() != Tree.Kind.REMAINDER_ASSIGNMENT);
            return super.visitCompoundAssignment(tree, none);
        }

        @Override
        public Void visitTypeCast(TypeCastTree tree, Void none) {
            check(6, tree, typeOf(tree.getType()).getKind().isPrimitive());
            return super.visitTypeCast(tree, none);
        }

        @Override
        public Void visitNewClass(NewClassTree tree, Void none) {
            check(2, tree, tree.getClassBody() == null);
            check(12, tree, method.isEmpty() || inConstructor);
            return super.visitNewClass(tree, none);
        }

        @Override
        public Void visitNewArray(NewArrayTree tree, Void none) {
            check(3, tree, !(tree.getType() instanceof ArrayTypeTree));
            check(12, tree, method.isEmpty() || inConstructor);
            return super.visitNewArray(tree, none);
        }

        @Override
        public Void visitForLoop(ForLoopTree tree, Void none) {
            check(9, tree, tree.getCondition() != null && hasCounter(tree.getCondition(), tree));
            return super.visitForLoop(tree, none);
        }

        @Override
        public Void visitWhileLoop(WhileLoopTree tree, Void none) {
            check(9, tree, hasCounter(tree.getCondition(), tree));
            return super.visitWhileLoop(tree, none);
        }

        @Override
        public Void visitDoWhileLoop(DoWhileLoopTree tree, Void none) {
            check(9, tree, hasCounter(tree.getCondition(), tree));
            return super.visitDoWhileLoop(tree, none);
        }

        /** A part of the condition, joined by && alone, holds a counter that the loop steps by one to a bound. */
        private boolean hasCounter(Tree condition, Tree loop) {
            if (condition instanceof com.sun.source.tree.ParenthesizedTree inner) {
                return hasCounter(inner.getExpression(), loop);
            }
            if (!(condition instanceof BinaryTree pair)) {
                return false;
            }
            if (pair.getKind() == Tree.Kind.CONDITIONAL_AND) {
                return hasCounter(pair.getLeftOperand(), loop) || hasCounter(pair.getRightOperand(), loop);
            }
            boolean up = pair.getKind() == Tree.Kind.LESS_THAN || pair.getKind() == Tree.Kind.LESS_THAN_EQUAL;
            boolean down = pair.getKind() == Tree.Kind.GREATER_THAN || pair.getKind() == Tree.Kind.GREATER_THAN_EQUAL;
            return (up || down) && pair.getLeftOperand() instanceof IdentifierTree counter
                    && stepsOnlyByOne(counter.getName().toString(), loop, up);
        }

        private boolean stepsOnlyByOne(String counter, Tree loop, boolean up) {
            int[] steps = new int[2];
            new TreeScanner<Void, Void>() {
                @Override
                public Void visitUnary(UnaryTree tree, Void none) {
                    if (tree.getExpression().toString().equals(counter)) {
                        boolean raises = tree.getKind() == Tree.Kind.POSTFIX_INCREMENT;
                        boolean lowers = tree.getKind() == Tree.Kind.POSTFIX_DECREMENT;
                        steps[0] += raises && up || lowers && !up ? 1 : 0;
                        steps[1] += raises && !up || lowers && up ? 1 : 0;
                    }
                    return super.visitUnary(tree, none);
                }

                @Override
                public Void visitCompoundAssignment(CompoundAssignmentTree tree, Void none) {
                    steps[1] += tree.getVariable().toString().equals(counter) ? 1 : 0;
                    return super.visitCompoundAssignment(tree, none);
                }
            }.scan(bodyAndSteps(loop), null);
            return steps[0] > 0 && steps[1] == 0;
        }

        private List<Tree> bodyAndSteps(Tree loop) {
            if (loop instanceof ForLoopTree each) {
                List<Tree> parts = new java.util.ArrayList<>(each.getUpdate());
                parts.add(each.getStatement());
                return parts;
            }
            StatementTree body = loop instanceof WhileLoopTree whole ? whole.getStatement()
                    : ((DoWhileLoopTree) loop).getStatement();
            return List.of(body);
        }

        @Override
        public Void visitEnhancedForLoop(EnhancedForLoopTree tree, Void none) {
            check(9, tree, typeOf(tree.getExpression()).toString().endsWith("[]"));
            return super.visitEnhancedForLoop(tree, none);
        }

        @Override
        public Void visitLiteral(LiteralTree tree, Void none) {
            if (tree.getValue() instanceof String text) {
                check(4, tree, text.chars().allMatch(c -> c >= 1 && c <= 127));
            }
            check(3, tree, !(tree.getValue() instanceof Double) && !(tree.getValue() instanceof Float));
            return super.visitLiteral(tree, none);
        }

        @Override
        public Void visitLambdaExpression(LambdaExpressionTree tree, Void none) {
            ruledOut(2, tree);
            return null;
        }

        @Override
        public Void visitMemberReference(MemberReferenceTree tree, Void none) {
            ruledOut(2, tree);
            return null;
        }

        @Override
        public Void visitThrow(ThrowTree tree, Void none) {
            ruledOut(6, tree);
            return null;
        }

        @Override
        public Void visitTry(TryTree tree, Void none) {
            ruledOut(6, tree);
            return null;
        }

        @Override
        public Void visitSynchronized(SynchronizedTree tree, Void none) {
            ruledOut(6, tree);
            return null;
        }

        @Override
        public Void visitAssert(AssertTree tree, Void none) {
            ruledOut(6, tree);
            return null;
        }

        @Override
        public Void visitInstanceOf(InstanceOfTree tree, Void none) {
            ruledOut(6, tree);
            return null;
        }
    }
}
