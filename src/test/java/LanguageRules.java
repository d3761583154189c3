import com.sun.source.tree.AssertTree;
import com.sun.source.tree.BinaryTree;
import com.sun.source.tree.ClassTree;
import com.sun.source.tree.CompilationUnitTree;
import com.sun.source.tree.CompoundAssignmentTree;
import com.sun.source.tree.ForLoopTree;
import com.sun.source.tree.ImportTree;
import com.sun.source.tree.LambdaExpressionTree;
import com.sun.source.tree.LiteralTree;
import com.sun.source.tree.MemberReferenceTree;
import com.sun.source.tree.MethodInvocationTree;
import com.sun.source.tree.MethodTree;
import com.sun.source.tree.NewArrayTree;
import com.sun.source.tree.NewClassTree;
import com.sun.source.tree.SynchronizedTree;
import com.sun.source.tree.ThrowTree;
import com.sun.source.tree.Tree;
import com.sun.source.tree.TryTree;
import com.sun.source.tree.VariableTree;
import com.sun.source.tree.WhileLoopTree;
import com.sun.source.util.JavacTask;
import com.sun.source.util.TreePathScanner;
import com.sun.source.util.Trees;
import java.io.IOException;
import java.net.URI;
import java.util.ArrayList;
import java.util.HashMap;
import java.util.LinkedHashSet;
import java.util.List;
import java.util.Map;
import java.util.Set;
import javax.lang.model.element.Element;
import javax.lang.model.element.ElementKind;
import javax.lang.model.element.ExecutableElement;
import javax.lang.model.element.Modifier;
import javax.lang.model.element.VariableElement;
import javax.tools.JavaCompiler;
import javax.tools.JavaFileObject;
import javax.tools.SimpleJavaFileObject;
import javax.tools.ToolProvider;

/**
 * What in a source text stands outside ../shared/LANGUAGE.md, as far as a text can tell. It is
 * narrower than the rules where the class is (no try, no list, rows made in constructors alone).
 */
final class LanguageRules extends TreePathScanner<Void, Void> {
    private static final Set<String> TYPES = Set.of("int", "long", "short", "byte", "char", "boolean", "double",
            "float", "java.lang.String", "java.lang.StringBuilder");
    private static final Set<String> NUMBERS = Set.of("int", "long", "short", "byte", "char", "double", "float");
    private static final Set<String> LIBRARY = Set.of("String.length", "String.charAt", "String.isEmpty",
            "String.equals", "String.substring", "StringBuilder.append", "StringBuilder.length",
            "StringBuilder.charAt", "StringBuilder.toString", "Math.abs", "Math.max", "Math.min",
            "System.arraycopy", "Arrays.fill", "Arrays.copyOf", "Arrays.copyOfRange", "Object.<init>");
    private static final Set<String> EXCEPTIONS = Set.of("IllegalStateException", "IllegalArgumentException",
            "IndexOutOfBoundsException", "ArithmeticException", "UnsupportedOperationException",
            "NoSuchElementException", "RuntimeException");
    private static final int PARAMETERS = 7;
    private static final int LINES = 60;
    private static final int DEPTH = 8;
    private static final int CLASSES = 12;
    private static final int FIELDS = 20;

    private final Set<String> findings = new LinkedHashSet<>();
    private final Map<Element, Set<Element>> calls = new HashMap<>();
    private final Set<String> faceNames = new LinkedHashSet<>();
    private final List<Element> privateMethods = new ArrayList<>();
    private final Trees trees;
    private final CompilationUnitTree unit;
    private MethodTree method = null;
    private int classes = 0;

    private LanguageRules(Trees trees, CompilationUnitTree unit) {
        this.trees = trees;
        this.unit = unit;
    }

    /** Each finding begins with the number of the rule. */
    static List<String> findings(String source) {
        JavaCompiler compiler = ToolProvider.getSystemJavaCompiler();
        JavacTask task = (JavacTask) compiler.getTask(null, null, null, List.of("-proc:none"), null,
                List.of(new Source(source)));
        try {
            CompilationUnitTree unit = task.parse().iterator().next();
            task.analyze();
            LanguageRules rules = new LanguageRules(Trees.instance(task), unit);
            rules.scan(unit, null);
            rules.wholeText();
            return new ArrayList<>(rules.findings);
        } catch (IOException e) {
            throw new IllegalStateException(e);
        }
    }

    private static final class Source extends SimpleJavaFileObject {
        private final String text;

        Source(String text) {
            super(URI.create("string:///ColophonDetective.java"), JavaFileObject.Kind.SOURCE);
            this.text = text;
        }

        @Override
        public CharSequence getCharContent(boolean ignoreEncodingErrors) {
            return text;
        }
    }

    private void found(int rule, String what, Tree where) {
        findings.add(rule + ": " + what + " in line " + line(where, false));
    }

    private long line(Tree tree, boolean isEnd) {
        long at = isEnd ? trees.getSourcePositions().getEndPosition(unit, tree)
                : trees.getSourcePositions().getStartPosition(unit, tree);
        return unit.getLineMap().getLineNumber(Math.max(at, 0));
    }

    private Element elementOf(Tree tree) {
        return trees.getElement(trees.getPath(unit, tree));
    }

    private String typeOf(Tree tree) {
        return String.valueOf(trees.getTypeMirror(trees.getPath(unit, tree)));
    }

    private void wholeText() {
        if (unit.getPackageName() != null || unit.getTypeDecls().size() != 1) {
            findings.add("2: one class without a package");
        }
        if (classes > CLASSES) {
            findings.add("11: " + classes + " classes");
        }
        for (Element hidden : privateMethods) {
            if (faceNames.contains(hidden.getSimpleName().toString())) {
                findings.add("1: the private " + hidden + " has the name of a public method");
            }
        }
        for (Element caller : calls.keySet()) {
            if (depth(caller, 0) > DEPTH) {
                findings.add("11: calls from " + caller + " go deeper than " + DEPTH + " or in a circle");
            }
        }
    }

    /** How many methods stand open at once, the first one too; a circle is cut off beyond the limit. */
    private int depth(Element caller, int above) {
        int deepest = 0;
        if (above <= DEPTH) {
            for (Element called : calls.getOrDefault(caller, Set.of())) {
                deepest = Math.max(deepest, depth(called, above + 1));
            }
        }
        return deepest + 1;
    }

    @Override
    public Void visitImport(ImportTree tree, Void nothing) {
        if (!tree.getQualifiedIdentifier().toString().equals("java.util.Arrays")) {
            found(4, tree.toString().strip(), tree);
        }
        return null;
    }

    @Override
    public Void visitClass(ClassTree tree, Void nothing) {
        classes++;
        Element element = elementOf(tree);
        Element outer = element.getEnclosingElement();
        if (outer.getKind() == ElementKind.CLASS && !element.getModifiers().contains(Modifier.STATIC)
                || outer.getKind() == ElementKind.METHOD) {
            found(2, "the class " + element + " is not static", tree);
        }
        int fields = 0;
        for (Element member : element.getEnclosedElements()) {
            if (member.getKind() == ElementKind.FIELD && !member.getModifiers().contains(Modifier.STATIC)) {
                fields++;
            }
        }
        if (fields > FIELDS) {
            found(11, fields + " fields", tree);
        }
        return super.visitClass(tree, nothing);
    }

    @Override
    public Void visitMethod(MethodTree tree, Void nothing) {
        Element element = elementOf(tree);
        String name = tree.getName().toString();
        if (element.getModifiers().contains(Modifier.PRIVATE) && element.getKind() == ElementKind.METHOD) {
            privateMethods.add(element);
        }
        if (element.getModifiers().contains(Modifier.PUBLIC)) {
            faceNames.add(name);
        }
        if (Set.of("equals", "hashCode", "toString", "finalize").contains(name)) {
            found(6, name, tree);
        }
        if (tree.getParameters().size() > PARAMETERS) {
            found(11, name + " has too many parameters", tree);
        }
        if (line(tree, true) - line(tree, false) + 1 > LINES) {
            found(11, name + " is too long", tree);
        }
        calls.computeIfAbsent(element, key -> new LinkedHashSet<>());
        MethodTree outer = method;
        method = tree;
        super.visitMethod(tree, nothing);
        method = outer;
        return null;
    }

    @Override
    public Void visitVariable(VariableTree tree, Void nothing) {
        VariableElement element = (VariableElement) elementOf(tree);
        String type = element.asType().toString();
        String base = type.replace("[]", "");
        int dimensions = (type.length() - base.length()) / 2;
        if (!TYPES.contains(base) && !base.startsWith("ColophonDetective.")
                || dimensions > (NUMBERS.contains(base) ? 2 : 1)) {
            found(3, type + " " + element, tree);
        }
        boolean isStatic = element.getModifiers().contains(Modifier.STATIC);
        if (isStatic && element.getConstantValue() == null) {
            found(5, element + " is no constant", tree);
        }
        return super.visitVariable(tree, nothing);
    }

    @Override
    public Void visitMethodInvocation(MethodInvocationTree tree, Void nothing) {
        used((ExecutableElement) elementOf(tree.getMethodSelect()), tree);
        return super.visitMethodInvocation(tree, nothing);
    }

    private void used(ExecutableElement called, Tree where) {
        Element owner = called.getEnclosingElement();
        String name = owner.getSimpleName() + "." + called.getSimpleName();
        boolean isOwn = owner.toString().startsWith("ColophonDetective");
        if (isOwn && method != null) {
            calls.get(elementOf(method)).add(called);
        } else if (!isOwn && !LIBRARY.contains(name)) {
            found(4, name, where);
        }
    }

    private boolean isMaking() {
        return method == null || elementOf(method).getKind() == ElementKind.CONSTRUCTOR;
    }

    @Override
    public Void visitNewClass(NewClassTree tree, Void nothing) {
        boolean isThrown = getCurrentPath().getParentPath().getLeaf() instanceof ThrowTree;
        if (!isThrown) {
            used((ExecutableElement) elementOf(tree), tree);
            if (!isMaking()) {
                found(12, tree + " outside a constructor", tree);
            }
        }
        return super.visitNewClass(tree, nothing);
    }

    @Override
    public Void visitNewArray(NewArrayTree tree, Void nothing) {
        if (!isMaking()) {
            found(12, tree + " outside a constructor", tree);
        }
        return super.visitNewArray(tree, nothing);
    }

    @Override
    public Void visitThrow(ThrowTree tree, Void nothing) {
        boolean isWritten = tree.getExpression() instanceof NewClassTree made
                && EXCEPTIONS.contains(made.getIdentifier().toString())
                && made.getArguments().size() <= 1
                && (made.getArguments().isEmpty()
                        || made.getArguments().get(0).getKind() == Tree.Kind.STRING_LITERAL);
        if (!isWritten || isMaking()) {
            found(6, tree.toString(), tree);
        }
        return super.visitThrow(tree, nothing);
    }

    @Override
    public Void visitTry(TryTree tree, Void nothing) {
        found(6, "try", tree);
        return super.visitTry(tree, nothing);
    }

    @Override
    public Void visitSynchronized(SynchronizedTree tree, Void nothing) {
        found(6, "synchronized", tree);
        return super.visitSynchronized(tree, nothing);
    }

    @Override
    public Void visitAssert(AssertTree tree, Void nothing) {
        found(6, "assert", tree);
        return super.visitAssert(tree, nothing);
    }

    @Override
    public Void visitLambdaExpression(LambdaExpressionTree tree, Void nothing) {
        found(2, "a lambda", tree);
        return super.visitLambdaExpression(tree, nothing);
    }

    @Override
    public Void visitMemberReference(MemberReferenceTree tree, Void nothing) {
        found(2, "a method reference", tree);
        return super.visitMemberReference(tree, nothing);
    }

    @Override
    public Void visitLiteral(LiteralTree tree, Void nothing) {
        if (tree.getValue() instanceof String text) {
            for (int i = 0; i < text.length(); i++) {
                if (text.charAt(i) < 1 || text.charAt(i) > 127) {
                    found(4, "a sign beyond 127", tree);
                }
            }
        }
        if (tree.getValue() instanceof Character sign && sign > 255) {
            found(3, "a character beyond 255", tree);
        }
        return super.visitLiteral(tree, nothing);
    }

    @Override
    public Void visitBinary(BinaryTree tree, Void nothing) {
        boolean isOfTexts = typeOf(tree.getLeftOperand()).equals("java.lang.String")
                || typeOf(tree.getRightOperand()).equals("java.lang.String");
        if (isOfTexts && tree.getKind() == Tree.Kind.PLUS) {
            found(10, "texts joined by +", tree);
        }
        if (isOfTexts && (tree.getKind() == Tree.Kind.EQUAL_TO || tree.getKind() == Tree.Kind.NOT_EQUAL_TO)) {
            found(6, "texts compared by ==", tree);
        }
        return super.visitBinary(tree, nothing);
    }

    @Override
    public Void visitCompoundAssignment(CompoundAssignmentTree tree, Void nothing) {
        if (typeOf(tree.getVariable()).equals("java.lang.String")) {
            found(10, "texts joined by +=", tree);
        }
        return super.visitCompoundAssignment(tree, nothing);
    }

    @Override
    public Void visitForLoop(ForLoopTree tree, Void nothing) {
        if (tree.getCondition() == null) {
            found(9, "a loop without an end", tree);
        }
        return super.visitForLoop(tree, nothing);
    }

    @Override
    public Void visitWhileLoop(WhileLoopTree tree, Void nothing) {
        if (tree.getCondition().toString().equals("(true)")) {
            found(9, "a loop without an end", tree);
        }
        return super.visitWhileLoop(tree, nothing);
    }
}
