import com.sun.source.tree.BinaryTree;
import com.sun.source.tree.ClassTree;
import com.sun.source.tree.CompilationUnitTree;
import com.sun.source.tree.ExpressionTree;
import com.sun.source.tree.ImportTree;
import com.sun.source.tree.LiteralTree;
import com.sun.source.tree.MethodInvocationTree;
import com.sun.source.tree.MethodTree;
import com.sun.source.tree.NewArrayTree;
import com.sun.source.tree.NewClassTree;
import com.sun.source.tree.ThrowTree;
import com.sun.source.tree.Tree;
import com.sun.source.tree.TypeCastTree;
import com.sun.source.tree.VariableTree;
import com.sun.source.util.JavacTask;
import com.sun.source.util.TreePath;
import com.sun.source.util.TreePathScanner;
import com.sun.source.util.Trees;
import java.io.IOException;
import java.nio.file.Path;
import java.util.ArrayList;
import java.util.HashMap;
import java.util.HashSet;
import java.util.List;
import java.util.Map;
import java.util.Set;
import javax.lang.model.element.Element;
import javax.lang.model.element.ElementKind;
import javax.lang.model.element.Modifier;
import javax.lang.model.type.TypeMirror;
import javax.tools.JavaCompiler;
import javax.tools.StandardJavaFileManager;
import javax.tools.ToolProvider;

/** The rules of LANGUAGE.md that can be read off the source of the class; their numbers stand in what is told. */
public final class LanguageTest extends TreePathScanner<Void, Void> {
    private static final Path SOURCE = Path.of("src", "main", "java", "RansomHymn.java");
    private static final int MOST_CLASSES = 12;
    private static final int MOST_FIELDS = 20;
    private static final int MOST_LINES = 60;
    private static final int MOST_PARAMETERS = 7;
    private static final int MOST_DEPTH = 8;
    private static final Set<String> IMPORTS = Set.of("java.util.Arrays", "java.util.ArrayList", "java.util.List",
            "java.util.Iterator", "java.util.NoSuchElementException");
    /** The class needs no try; whoever needs one looks at rule 6 and at what the machine throws first. */
    private static final Set<Tree.Kind> REFUSED = Set.of(Tree.Kind.LAMBDA_EXPRESSION, Tree.Kind.MEMBER_REFERENCE,
            Tree.Kind.SYNCHRONIZED, Tree.Kind.ASSERT, Tree.Kind.TRY);
    private static final Set<String> CASTS = Set.of("int", "long", "byte", "char", "short");
    private static final Set<String> THROWN = Set.of("IllegalStateException", "IllegalArgumentException",
            "IndexOutOfBoundsException", "ArithmeticException", "UnsupportedOperationException", "NoSuchElementException",
            "RuntimeException");
    private static final Set<String> LIBRARY = Set.of("String.length", "String.charAt", "String.isEmpty", "String.equals",
            "String.indexOf", "String.substring", "String.toCharArray", "System.arraycopy", "Arrays.fill", "Arrays.copyOf",
            "Arrays.copyOfRange", "Math.min", "Math.max", "Math.abs", "Math.floorDiv", "Math.floorMod", "Integer.bitCount",
            "Integer.compare", "Integer.min", "Integer.max", "Long.bitCount", "Long.compare", "Long.min", "Long.max");
    private static final Set<String> STATIC_TYPES = Set.of("int", "long", "boolean", "char", "java.lang.String", "int[]",
            "long[]", "char[]", "byte[]");

    private final Trees trees;
    private final CompilationUnitTree unit;
    private final Map<Element, Set<Element>> calls = new HashMap<>();
    private final Map<Element, Integer> depths = new HashMap<>();
    private Element within = null;
    private boolean inConstructor = false;
    private int classes = 0;

    private LanguageTest(Trees trees, CompilationUnitTree unit) {
        this.trees = trees;
        this.unit = unit;
    }

    public static void main(String[] args) throws IOException {
        JavaCompiler compiler = ToolProvider.getSystemJavaCompiler();
        try (StandardJavaFileManager files = compiler.getStandardFileManager(null, null, null)) {
            JavacTask task = (JavacTask) compiler.getTask(null, files, null, List.of("-proc:none"), null,
                    files.getJavaFileObjects(SOURCE));
            CompilationUnitTree unit = task.parse().iterator().next();
            task.analyze();
            LanguageTest test = new LanguageTest(Trees.instance(task), unit);
            test.scan(unit, null);
            test.checkWhole();
        }
        Check.end("LanguageTest");
    }

    private void checkWhole() {
        Check.isTrue("no package line", unit.getPackageName() == null);
        Check.isTrue("rule 11: " + classes + " classes", classes > 0 && classes <= MOST_CLASSES);
        for (Element method : new ArrayList<>(calls.keySet())) {
            int depth = depthOf(method, new HashSet<>());
            Check.isTrue("rule 11: calls of " + method + " go " + depth + " deep", depth <= MOST_DEPTH);
        }
    }

    /** A method that calls itself is one call here; the class needs none that call one another. */
    private int depthOf(Element method, Set<Element> open) {
        Integer known = depths.get(method);
        if (known != null) {
            return known;
        }
        open.add(method);
        int deepest = 0;
        for (Element called : calls.getOrDefault(method, Set.of())) {
            boolean isOpen = open.contains(called);
            Check.isTrue("rule 8: " + method + " calls back " + called, !isOpen || called == method);
            if (!isOpen) {
                deepest = Math.max(deepest, depthOf(called, open));
            }
        }
        open.remove(method);
        depths.put(method, deepest + 1);
        return deepest + 1;
    }

    @Override
    public Void scan(Tree tree, Void none) {
        if (tree != null) {
            Check.isTrue("rules 2, 6: " + tree.getKind() + at(tree), !REFUSED.contains(tree.getKind()));
        }
        return super.scan(tree, none);
    }

    @Override
    public Void visitTypeCast(TypeCastTree cast, Void none) {
        Check.isTrue("rule 6: a cast to " + cast.getType() + at(cast), CASTS.contains(cast.getType().toString()));
        return super.visitTypeCast(cast, none);
    }

    @Override
    public Void visitImport(ImportTree line, Void none) {
        Check.isTrue("rule 4: " + line, IMPORTS.contains(line.getQualifiedIdentifier().toString()));
        return super.visitImport(line, none);
    }

    @Override
    public Void visitClass(ClassTree tree, Void none) {
        classes++;
        Set<Modifier> flags = tree.getModifiers().getFlags();
        Check.isTrue("rule 2: " + tree.getSimpleName() + " is static", classes == 1 || flags.contains(Modifier.STATIC));
        int fields = 0;
        for (Tree member : tree.getMembers()) {
            if (member instanceof VariableTree && !((VariableTree) member).getModifiers().getFlags().contains(Modifier.STATIC)) {
                fields++;
            }
            Check.isTrue("rule 5: a block" + at(member), member.getKind() != Tree.Kind.BLOCK);
        }
        Check.isTrue("rule 11: " + tree.getSimpleName() + " has " + fields + " fields", fields <= MOST_FIELDS);
        return super.visitClass(tree, none);
    }

    @Override
    public Void visitVariable(VariableTree tree, Void none) {
        Element element = trees.getElement(getCurrentPath());
        TypeMirror type = element.asType();
        String dimensions = type.toString().replaceAll("[^\\[]", "");
        boolean isNumbers = type.toString().matches("(int|long|short|byte|char)\\[\\]\\[\\]");
        Check.isTrue("rule 3: " + type + at(tree), dimensions.length() <= 1 || isNumbers);
        if (element.getKind() == ElementKind.FIELD && element.getModifiers().contains(Modifier.STATIC)) {
            Check.isTrue("rule 5: " + tree.getName() + " is final", element.getModifiers().contains(Modifier.FINAL));
            Check.isTrue("rule 5: " + tree.getName() + " is of " + type, STATIC_TYPES.contains(type.toString()));
        }
        return super.visitVariable(tree, none);
    }

    @Override
    public Void visitMethod(MethodTree tree, Void none) {
        Element outer = within;
        boolean outerConstructor = inConstructor;
        within = trees.getElement(getCurrentPath());
        inConstructor = within.getKind() == ElementKind.CONSTRUCTOR;
        calls.putIfAbsent(within, new HashSet<>());
        long lines = lineOf(trees.getSourcePositions().getEndPosition(unit, tree)) - lineOf(startOf(tree)) + 1;
        Check.isTrue("rule 11: " + tree.getName() + " has " + lines + " lines", lines <= MOST_LINES);
        Check.isTrue("rule 11: parameters of " + tree.getName(), tree.getParameters().size() <= MOST_PARAMETERS);
        Check.isTrue("rule 6: " + tree.getName(), !Set.of("equals", "hashCode", "toString").contains(tree.getName().toString()));
        super.visitMethod(tree, none);
        within = outer;
        inConstructor = outerConstructor;
        return null;
    }

    @Override
    public Void visitMethodInvocation(MethodInvocationTree tree, Void none) {
        Element called = trees.getElement(getCurrentPath());
        String owner = called.getEnclosingElement().toString();
        if (owner.startsWith("java.")) {
            String name = owner.replaceFirst(".*\\.", "") + "." + called.getSimpleName();
            boolean isSuper = called.getKind() == ElementKind.CONSTRUCTOR;
            Check.isTrue("rule 4: " + name + at(tree), isSuper || LIBRARY.contains(name));
        } else if (within != null) {
            calls.get(within).add(called);
        }
        return super.visitMethodInvocation(tree, none);
    }

    @Override
    public Void visitThrow(ThrowTree tree, Void none) {
        ExpressionTree what = tree.getExpression();
        Check.isTrue("rule 6: a throw in a constructor" + at(tree), !inConstructor);
        boolean isNew = what instanceof NewClassTree;
        Check.isTrue("rule 6: throw new" + at(tree), isNew);
        if (isNew) {
            NewClassTree made = (NewClassTree) what;
            Check.isTrue("rule 6: " + made + at(tree), THROWN.contains(made.getIdentifier().toString()));
            for (ExpressionTree argument : made.getArguments()) {
                Check.isTrue("rule 6: a written text" + at(tree), argument.getKind() == Tree.Kind.STRING_LITERAL);
            }
        }
        return super.visitThrow(tree, none);
    }

    /** What a call makes is counted (rule 12): but for exceptions all rows and objects are made ahead. */
    @Override
    public Void visitNewArray(NewArrayTree tree, Void none) {
        Check.isTrue("rule 12: an array" + at(tree), within == null || inConstructor);
        return super.visitNewArray(tree, none);
    }

    @Override
    public Void visitNewClass(NewClassTree tree, Void none) {
        boolean isThrown = getCurrentPath().getParentPath().getLeaf() instanceof ThrowTree;
        Check.isTrue("rule 12: an object" + at(tree), within == null || inConstructor || isThrown);
        return super.visitNewClass(tree, none);
    }

    @Override
    public Void visitBinary(BinaryTree tree, Void none) {
        boolean isText = isString(tree.getLeftOperand()) || isString(tree.getRightOperand());
        Check.isTrue("rules 6, 10: " + tree + at(tree), !isText);
        return super.visitBinary(tree, none);
    }

    @Override
    public Void visitLiteral(LiteralTree tree, Void none) {
        if (tree.getValue() instanceof String) {
            boolean isPlain = ((String) tree.getValue()).chars().allMatch(sign -> sign >= 1 && sign <= 127);
            Check.isTrue("rule 4: " + tree + at(tree), isPlain);
        }
        boolean isReal = tree.getValue() instanceof Double || tree.getValue() instanceof Float;
        Check.isTrue("the class needs no " + tree + at(tree), !isReal);
        return super.visitLiteral(tree, none);
    }

    private boolean isString(Tree tree) {
        TypeMirror type = trees.getTypeMirror(new TreePath(getCurrentPath(), tree));
        return type != null && type.toString().equals("java.lang.String");
    }

    private long startOf(Tree tree) {
        return trees.getSourcePositions().getStartPosition(unit, tree);
    }

    private long lineOf(long position) {
        return position < 0 ? 0 : unit.getLineMap().getLineNumber(position);
    }

    private String at(Tree tree) {
        return " in line " + lineOf(startOf(tree));
    }
}
