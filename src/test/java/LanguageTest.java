import com.sun.source.tree.AssertTree;
import com.sun.source.tree.BinaryTree;
import com.sun.source.tree.ClassTree;
import com.sun.source.tree.CompilationUnitTree;
import com.sun.source.tree.CompoundAssignmentTree;
import com.sun.source.tree.DoWhileLoopTree;
import com.sun.source.tree.EnhancedForLoopTree;
import com.sun.source.tree.ForLoopTree;
import com.sun.source.tree.ImportTree;
import com.sun.source.tree.LambdaExpressionTree;
import com.sun.source.tree.LiteralTree;
import com.sun.source.tree.MemberReferenceTree;
import com.sun.source.tree.MethodInvocationTree;
import com.sun.source.tree.MethodTree;
import com.sun.source.tree.NewArrayTree;
import com.sun.source.tree.NewClassTree;
import com.sun.source.tree.SynchronizedTree;
import com.sun.source.tree.ThrowTree;
import com.sun.source.tree.Tree;
import com.sun.source.tree.TryTree;
import com.sun.source.tree.TypeCastTree;
import com.sun.source.tree.VariableTree;
import com.sun.source.tree.WhileLoopTree;
import com.sun.source.util.JavacTask;
import com.sun.source.util.TreePath;
import com.sun.source.util.TreePathScanner;
import com.sun.source.util.Trees;
import java.io.IOException;
import java.nio.file.Files;
import java.nio.file.Path;
import java.util.ArrayList;
import java.util.HashMap;
import java.util.LinkedHashSet;
import java.util.List;
import java.util.Map;
import java.util.Set;
import java.util.TreeSet;
import javax.lang.model.element.Element;
import javax.lang.model.element.ElementKind;
import javax.lang.model.element.Modifier;
import javax.lang.model.element.TypeElement;
import javax.lang.model.element.VariableElement;
import javax.lang.model.type.TypeKind;
import javax.tools.JavaCompiler;
import javax.tools.StandardJavaFileManager;
import javax.tools.ToolProvider;

/**
 * Holds a program against ../shared/LANGUAGE.md, as far as that can be seen from its text: the tree
 * that the compiler makes of it. It is stricter than the rules where the program needs no more: no
 * try, no recursion, no generics, no object made by a call, but for exceptions. That no call throws
 * by itself (rules 6 and 7) is for AnyArgumentsTest.
 */
public final class LanguageTest extends TreePathScanner<Void, Void> {

    private static final Path PROGRAM = Path.of("src/main/java/Latticework.java");
    private static final Path DOCUMENT = Path.of("../shared/DOC.md");
    private static final int MOST_CLASSES = 12;
    private static final int MOST_FIELDS = 20;
    private static final int MOST_PARAMETERS = 7;
    private static final int MOST_LINES = 60;
    private static final int MOST_DEEP = 8;
    private static final String NUMBER = "(int|long|short|byte|char|double|float)";
    private static final String TYPES = "(boolean|" + NUMBER + "|" + NUMBER + "\\[\\]\\[\\]|boolean\\[\\]|"
            + NUMBER + "\\[\\]|java\\.lang\\.(String|StringBuilder)|Latticework\\.\\w+(\\[\\])?)";
    private static final String CONSTANTS = "(int|long|boolean|char|java\\.lang\\.String|(int|long|char|byte)\\[\\])";
    private static final String LIBRARY = "java\\.lang\\.String\\.(length|charAt|isEmpty|equals|indexOf|substring|toCharArray)"
            + "|java\\.lang\\.StringBuilder\\.(append|charAt|setCharAt|setLength|deleteCharAt|reverse|length|toString)"
            + "|java\\.lang\\.(Integer|Long)\\.(compare|max|min|bitCount)"
            + "|java\\.lang\\.Math\\.(max|min|abs|floorDiv|floorMod)"
            + "|java\\.lang\\.System\\.arraycopy|java\\.util\\.Arrays\\.(copyOf|copyOfRange|fill)"
            // what a constructor calls without a word
            + "|java\\.lang\\.Object\\.<init>";
    private static final Set<String> EXCEPTIONS = Set.of("IllegalStateException", "IllegalArgumentException",
            "IndexOutOfBoundsException", "ArithmeticException", "UnsupportedOperationException",
            "NoSuchElementException", "RuntimeException");

    private final Set<String> faults = new TreeSet<>();
    private final Set<String> face = new TreeSet<>();
    private final Map<Element, Set<Element>> calls = new HashMap<>();
    private final Map<Element, Integer> depths = new HashMap<>();
    private CompilationUnitTree unit;
    private Trees trees;
    private int classes;

    public static void main(String[] args) throws IOException {
        Set<String> faults = faultsOf(args.length > 0 ? Path.of(args[0]) : PROGRAM);
        for (String fault : faults) {
            System.out.println("LANGUAGE.md " + fault);
        }
        if (!faults.isEmpty()) {
            System.exit(1);
        }
    }

    static Set<String> faultsOf(Path program) throws IOException {
        LanguageTest test = new LanguageTest();
        JavaCompiler compiler = ToolProvider.getSystemJavaCompiler();
        try (StandardJavaFileManager files = compiler.getStandardFileManager(null, null, null)) {
            JavacTask task = (JavacTask) compiler.getTask(null, files, null, List.of("-proc:none"), null,
                    files.getJavaFileObjects(program));
            test.trees = Trees.instance(task);
            Iterable<? extends CompilationUnitTree> units = task.parse();
            task.analyze();
            for (CompilationUnitTree unit : units) {
                test.unit = unit;
                test.scan(unit, null);
            }
        }
        test.needSigns(Files.readString(program));
        test.needFace();
        test.needDepth();
        test.need(test.classes <= MOST_CLASSES, 11, null, test.classes + " classes");
        return test.faults;
    }

    // ---- what is told

    private void need(boolean holds, int rule, Tree tree, String what) {
        if (!holds) {
            faults.add("rule " + rule + (tree == null ? "" : ", line " + lineOf(tree)) + ": " + what);
        }
    }

    private long lineOf(Tree tree) {
        return unit.getLineMap().getLineNumber(trees.getSourcePositions().getStartPosition(unit, tree));
    }

    private long lastLineOf(Tree tree) {
        return unit.getLineMap().getLineNumber(trees.getSourcePositions().getEndPosition(unit, tree));
    }

    private Element element(Tree tree) {
        return trees.getElement(TreePath.getPath(unit, tree));
    }

    private String typeOf(Tree tree) {
        return String.valueOf(trees.getTypeMirror(TreePath.getPath(unit, tree)));
    }

    private Tree parent() {
        return getCurrentPath().getParentPath().getLeaf();
    }

    private Tree around(Class<?> kind) {
        for (TreePath path = getCurrentPath().getParentPath(); path != null; path = path.getParentPath()) {
            if (kind.isInstance(path.getLeaf())) {
                return path.getLeaf();
            }
        }
        return null;
    }

    private boolean isInMaking() {
        MethodTree method = (MethodTree) around(MethodTree.class);
        return method == null || method.getName().contentEquals("<init>");
    }

    private static boolean isOwn(Element element) {
        Element outermost = element;
        while (outermost != null && outermost.getEnclosingElement() != null
                && outermost.getEnclosingElement().getKind() != ElementKind.PACKAGE) {
            outermost = outermost.getEnclosingElement();
        }
        return outermost != null && outermost.getSimpleName().contentEquals("Latticework");
    }

    // ---- rules 1 and 2: the face, and the classes inside

    private void needFace() throws IOException {
        String block = Files.readString(DOCUMENT).split("```java\n")[1].split("```")[0];
        Set<String> due = new TreeSet<>();
        for (String line : block.split("\n")) {
            if (line.startsWith("    public ")) {
                due.add(line.trim());
            }
        }
        need(due.size() == 31, 1, null, "the document's face has " + due.size() + " rows");
        for (String row : due) {
            need(face.contains(row), 1, null, "missing: " + row);
        }
        for (String row : face) {
            need(due.contains(row), 1, null, "not of the face: " + row);
        }
    }

    private void addToFace(MethodTree method) {
        StringBuilder row = new StringBuilder();
        for (Modifier modifier : method.getModifiers().getFlags()) {
            row.append(modifier).append(' ');
        }
        boolean isConstructor = method.getReturnType() == null;
        row.append(isConstructor ? "Latticework" : method.getReturnType() + " " + method.getName()).append('(');
        for (VariableTree parameter : method.getParameters()) {
            row.append(row.charAt(row.length() - 1) == '(' ? "" : ", ");
            row.append(parameter.getType()).append(' ').append(parameter.getName());
        }
        row.append(')');
        for (int i = 0; i < method.getThrows().size(); i++) {
            row.append(i == 0 ? " throws " : ", ").append(method.getThrows().get(i));
        }
        face.add(row.append(';').toString());
    }

    @Override
    public Void visitClass(ClassTree tree, Void unused) {
        classes++;
        Set<Modifier> flags = tree.getModifiers().getFlags();
        Tree around = parent();
        if (around instanceof CompilationUnitTree) {
            need(tree.getSimpleName().contentEquals("Latticework"), 1, tree, "a class beside Latticework");
            need(flags.equals(Set.of(Modifier.PUBLIC, Modifier.FINAL)), 1, tree, "it is public and final");
        } else {
            need(around instanceof ClassTree, 2, tree, "a local or anonymous class");
            need(flags.contains(Modifier.STATIC), 2, tree, "a class inside that is not static");
            need(!flags.contains(Modifier.PUBLIC) && !flags.contains(Modifier.PROTECTED), 1, tree, "a class that is seen");
            // none is inherited from, so no constructor calls what another class overrides (rule 12)
            need(flags.contains(Modifier.FINAL) && tree.getExtendsClause() == null, 12, tree, "a class that is not final");
        }
        int fields = 0;
        for (Tree member : tree.getMembers()) {
            fields += member instanceof VariableTree && !isStatic((VariableTree) member) ? 1 : 0;
            need(member.getKind() != Tree.Kind.BLOCK, 5, member, "an initialiser block");
        }
        need(fields <= MOST_FIELDS, 11, tree, fields + " fields");
        return super.visitClass(tree, null);
    }

    @Override
    public Void visitMethod(MethodTree tree, Void unused) {
        Element method = element(tree);
        String name = tree.getName().toString();
        boolean isOutermost = around(ClassTree.class) == unit.getTypeDecls().get(0);
        boolean isPrivate = method.getModifiers().contains(Modifier.PRIVATE);
        if (isOutermost && !isPrivate) {
            addToFace(tree);
        }
        if (!isOutermost || isPrivate) {
            need(!publicNames().contains(name), 1, tree, "it bears the name of a public one: " + name);
        }
        need(!Set.of("equals", "hashCode", "toString", "finalize").contains(name), 6, tree, name);
        need(tree.getParameters().size() <= MOST_PARAMETERS, 11, tree, "too many parameters");
        need(lastLineOf(tree) - lineOf(tree) < MOST_LINES, 11, tree, "a long method");
        need(tree.getTypeParameters().isEmpty(), 3, tree, "a generic method");
        if (tree.getReturnType() != null && !typeOf(tree.getReturnType()).equals("void")) {
            needType(typeOf(tree.getReturnType()), tree);
        }
        calls.computeIfAbsent(method, key -> new LinkedHashSet<>());
        return super.visitMethod(tree, null);
    }

    private Set<String> publicNames() {
        Set<String> names = new TreeSet<>();
        for (Element member : element(unit.getTypeDecls().get(0)).getEnclosedElements()) {
            if (member.getKind() == ElementKind.METHOD && member.getModifiers().contains(Modifier.PUBLIC)) {
                names.add(member.getSimpleName().toString());
            }
        }
        return names;
    }

    @Override
    public Void visitLambdaExpression(LambdaExpressionTree tree, Void unused) {
        need(false, 2, tree, "a lambda");
        return super.visitLambdaExpression(tree, null);
    }

    @Override
    public Void visitMemberReference(MemberReferenceTree tree, Void unused) {
        need(false, 2, tree, "a method reference");
        return super.visitMemberReference(tree, null);
    }

    // ---- rules 3, 4, 5 and 13: types, the library, static fields

    private void needSigns(String text) {
        for (int i = 0; i < text.length(); i++) {
            char sign = text.charAt(i);
            need(sign == '\n' || sign >= 32 && sign < 127, 4, null, "the sign " + (int) sign);
        }
        need(!text.contains("\\u"), 4, null, "a sign put by its number in a text");
    }

    private void needType(String type, Tree tree) {
        need(type.matches(TYPES), 3, tree, "the type " + type);
    }

    private static boolean isStatic(VariableTree tree) {
        return tree.getModifiers().getFlags().contains(Modifier.STATIC);
    }

    @Override
    public Void visitImport(ImportTree tree, Void unused) {
        need(tree.getQualifiedIdentifier().toString().matches("java\\.util\\.(Arrays|ArrayList|List|Iterator|NoSuchElementException)")
                && !tree.isStatic(), 4, tree, tree.toString().trim());
        return null;
    }

    @Override
    public Void visitVariable(VariableTree tree, Void unused) {
        VariableElement variable = (VariableElement) element(tree);
        needType(variable.asType().toString(), tree);
        if (isStatic(tree)) {
            need(tree.getModifiers().getFlags().contains(Modifier.FINAL), 5, tree, "a static field that is not final");
            need(variable.asType().toString().matches(CONSTANTS), 5, tree, "a static field of " + variable.asType());
            need(variable.getConstantValue() != null, 5, tree, "a static field that is no constant");
        }
        if (variable.getKind() == ElementKind.FIELD && parent() == unit.getTypeDecls().get(0)) {
            need(tree.getModifiers().getFlags().contains(Modifier.PRIVATE), 1, tree, "a field that is seen");
        }
        return super.visitVariable(tree, null);
    }

    @Override
    public Void visitMethodInvocation(MethodInvocationTree tree, Void unused) {
        Element called = trees.getElement(getCurrentPath());
        Tree method = around(MethodTree.class);
        String name = ((TypeElement) called.getEnclosingElement()).getQualifiedName() + "." + called.getSimpleName();
        need(isOwn(called) || name.matches(LIBRARY), 4, tree, "the call " + name);
        need(method != null, 5, tree, "a call as a field is made");
        if (method != null) {
            calls.computeIfAbsent(element(method), key -> new LinkedHashSet<>()).add(called);
        }
        if (name.startsWith("java.util.Arrays.")) {
            String row = typeOf(tree.getArguments().get(0));
            need(row.matches(NUMBER + "\\[\\]"), 4, tree, name + " over " + row);
        }
        return super.visitMethodInvocation(tree, null);
    }

    @Override
    public Void visitTypeCast(TypeCastTree tree, Void unused) {
        need(trees.getTypeMirror(getCurrentPath()).getKind().isPrimitive(), 7, tree, "a cast to " + tree.getType());
        return super.visitTypeCast(tree, null);
    }

    @Override
    public Void visitBinary(BinaryTree tree, Void unused) {
        String whole = typeOf(tree);
        String one = typeOf(tree.getLeftOperand());
        String other = typeOf(tree.getRightOperand());
        need(!whole.equals("java.lang.String"), 10, tree, "texts joined by +");
        need(!one.matches("java\\.lang\\.(String|Integer)") && !other.matches("java\\.lang\\.(String|Integer)"),
                6, tree, tree.getKind() + " of " + one);
        need(!(one + other).matches(".*(double|float).*") || tree.getKind() != Tree.Kind.REMAINDER, 3, tree, "% on a double");
        return super.visitBinary(tree, null);
    }

    @Override
    public Void visitCompoundAssignment(CompoundAssignmentTree tree, Void unused) {
        need(!typeOf(tree.getVariable()).equals("java.lang.String"), 10, tree, "texts joined by +=");
        return super.visitCompoundAssignment(tree, null);
    }

    @Override
    public Void visitLiteral(LiteralTree tree, Void unused) {
        if (tree.getValue() instanceof String) {
            need(parent() instanceof NewClassTree, 6, tree, "a text that is not of an exception");
        }
        return null;
    }

    // ---- rule 6: exceptions

    @Override
    public Void visitThrow(ThrowTree tree, Void unused) {
        boolean isNew = tree.getExpression() instanceof NewClassTree;
        need(isNew, 6, tree, "it throws what is not new");
        if (isNew) {
            NewClassTree made = (NewClassTree) tree.getExpression();
            need(EXCEPTIONS.contains(made.getIdentifier().toString()), 6, tree, "it throws " + made.getIdentifier());
            need(made.getArguments().isEmpty() || made.getArguments().size() == 1
                    && made.getArguments().get(0) instanceof LiteralTree, 6, tree, "not a written text");
        }
        need(!isInMaking(), 6, tree, "a throw in a constructor");
        return super.visitThrow(tree, null);
    }

    @Override
    public Void visitTry(TryTree tree, Void unused) {
        need(false, 6, tree, "try");
        return super.visitTry(tree, null);
    }

    @Override
    public Void visitAssert(AssertTree tree, Void unused) {
        need(false, 6, tree, "assert");
        return super.visitAssert(tree, null);
    }

    @Override
    public Void visitSynchronized(SynchronizedTree tree, Void unused) {
        need(false, 6, tree, "synchronized");
        return super.visitSynchronized(tree, null);
    }

    // ---- rules 8 and 11: how deep calls go

    private void needDepth() {
        for (Element method : calls.keySet()) {
            int depth = depthOf(method, new ArrayList<>());
            need(depth <= MOST_DEEP, 11, null, "calls " + depth + " deep from " + method);
        }
    }

    /** How many calls stand open at once, at most, that of the method itself and of the library counted, too. */
    private int depthOf(Element method, List<Element> open) {
        if (open.contains(method)) {
            need(false, 8, null, "recursion by " + method);
            return 0;
        }
        Integer known = depths.get(method);
        if (known != null) {
            return known;
        }
        open.add(method);
        int deepest = 0;
        for (Element called : calls.getOrDefault(method, Set.of())) {
            deepest = Math.max(deepest, depthOf(called, open));
        }
        open.remove(method);
        depths.put(method, deepest + 1);
        return deepest + 1;
    }

    // ---- rule 9: loops that have an end

    private void needEnd(Tree condition, Tree loop) {
        String bound = condition == null ? "" : condition.toString();
        need(bound.matches("(?s).*(<|>|<=|>=).*") && !bound.contains("||"), 9, loop, "a loop without a bound");
    }

    @Override
    public Void visitForLoop(ForLoopTree tree, Void unused) {
        needEnd(tree.getCondition(), tree);
        need(!tree.getUpdate().isEmpty(), 9, tree, "a loop without a counter");
        return super.visitForLoop(tree, null);
    }

    @Override
    public Void visitWhileLoop(WhileLoopTree tree, Void unused) {
        needEnd(tree.getCondition(), tree);
        return super.visitWhileLoop(tree, null);
    }

    @Override
    public Void visitDoWhileLoop(DoWhileLoopTree tree, Void unused) {
        needEnd(tree.getCondition(), tree);
        return super.visitDoWhileLoop(tree, null);
    }

    @Override
    public Void visitEnhancedForLoop(EnhancedForLoopTree tree, Void unused) {
        need(trees.getTypeMirror(new TreePath(getCurrentPath(), tree.getExpression())).getKind() == TypeKind.ARRAY,
                12, tree, "an iterator");
        return super.visitEnhancedForLoop(tree, null);
    }

    // ---- rule 12: what is made

    @Override
    public Void visitNewClass(NewClassTree tree, Void unused) {
        need(parent() instanceof ThrowTree || isInMaking(), 12, tree, "a call makes an object");
        need(tree.getClassBody() == null, 2, tree, "an anonymous class");
        Tree method = around(MethodTree.class);
        Element made = trees.getElement(getCurrentPath());
        if (method != null && isOwn(made)) {
            calls.computeIfAbsent(element(method), key -> new LinkedHashSet<>()).add(made);
        }
        return super.visitNewClass(tree, null);
    }

    @Override
    public Void visitNewArray(NewArrayTree tree, Void unused) {
        need(isInMaking(), 12, tree, "a call makes an array");
        return super.visitNewArray(tree, null);
    }
}
