import com.sun.source.tree.AssertTree;
import com.sun.source.tree.BinaryTree;
import com.sun.source.tree.BlockTree;
import com.sun.source.tree.CatchTree;
import com.sun.source.tree.ClassTree;
import com.sun.source.tree.CompilationUnitTree;
import com.sun.source.tree.ExpressionTree;
import com.sun.source.tree.ForLoopTree;
import com.sun.source.tree.LambdaExpressionTree;
import com.sun.source.tree.LiteralTree;
import com.sun.source.tree.MemberReferenceTree;
import com.sun.source.tree.MethodInvocationTree;
import com.sun.source.tree.MethodTree;
import com.sun.source.tree.NewArrayTree;
import com.sun.source.tree.NewClassTree;
import com.sun.source.tree.SynchronizedTree;
import com.sun.source.tree.ThrowTree;
import com.sun.source.tree.Tree;
import com.sun.source.tree.TryTree;
import com.sun.source.tree.VariableTree;
import com.sun.source.tree.WhileLoopTree;
import com.sun.source.util.JavacTask;
import com.sun.source.util.TreePath;
import com.sun.source.util.TreePathScanner;
import com.sun.source.util.Trees;
import java.io.IOException;
import java.net.URI;
import java.util.ArrayList;
import java.util.HashMap;
import java.util.HashSet;
import java.util.LinkedHashMap;
import java.util.LinkedHashSet;
import java.util.List;
import java.util.Map;
import java.util.Set;
import javax.lang.model.element.Element;
import javax.lang.model.element.ElementKind;
import javax.lang.model.element.Modifier;
import javax.lang.model.element.TypeElement;
import javax.lang.model.type.TypeMirror;
import javax.tools.JavaFileObject;
import javax.tools.SimpleJavaFileObject;
import javax.tools.ToolProvider;

/**
 * What a syntax tree shows of the rules of LANGUAGE.md, as far as KillFollows uses Java: what the rules
 * allow beyond that (lists, enums, records ..) is told as broken too, and is to be added when it is used.
 */
final class Language extends TreePathScanner<Void, Void> {
    private static final int MOST_PARAMETERS = 7;
    private static final int MOST_LINES = 60;
    private static final int MOST_DEPTH = 8;
    private static final int MOST_CLASSES = 12;
    private static final int MOST_FIELDS = 20;
    private static final Set<String> LIBRARY = Set.of("java.lang.String.length", "java.lang.String.charAt",
            "java.lang.Integer.bitCount", "java.lang.Math.min", "java.lang.Math.max", "java.lang.System.arraycopy",
            "java.lang.Object.<init>");
    private static final Set<String> EXCEPTIONS = Set.of("java.lang.IllegalStateException",
            "java.lang.IllegalArgumentException", "java.lang.IndexOutOfBoundsException", "java.lang.ArithmeticException",
            "java.lang.UnsupportedOperationException", "java.util.NoSuchElementException", "java.lang.RuntimeException");
    private static final Set<String> TYPES = Set.of("int", "long", "boolean", "java.lang.String", "int[]", "long[]");
    private static final Set<String> CONSTANTS = Set.of("int", "long", "boolean", "char", "java.lang.String",
            "int[]", "long[]", "char[]", "byte[]");

    private final Trees trees;
    private final CompilationUnitTree unit;
    private final List<String> broken = new ArrayList<>();
    private final Map<Element, Set<Element>> calls = new LinkedHashMap<>();
    private final Map<Element, Integer> depths = new HashMap<>();
    private final Set<String> publicNames = new HashSet<>();
    private final Set<String> privateNames = new HashSet<>();
    private int classes;

    private Language(Trees trees, CompilationUnitTree unit) {
        this.trees = trees;
        this.unit = unit;
    }

    /** The rules that a source breaks, each with its line. */
    static List<String> broken(String name, String source) throws IOException {
        JavaFileObject file = new SimpleJavaFileObject(URI.create("string:///" + name + ".java"), JavaFileObject.Kind.SOURCE) {
            @Override
            public CharSequence getCharContent(boolean ignoreErrors) {
                return source;
            }
        };
        JavacTask task = (JavacTask) ToolProvider.getSystemJavaCompiler()
                .getTask(null, null, null, List.of("-proc:none"), null, List.of(file));
        CompilationUnitTree unit = task.parse().iterator().next();
        task.analyze();
        Language language = new Language(Trees.instance(task), unit);
        language.scan(unit, null);
        language.lookAtWhole();
        return language.broken;
    }

    private void lookAtWhole() {
        demand(classes <= MOST_CLASSES, 11, unit, classes + " classes");
        for (String name : privateNames) {
            demand(!publicNames.contains(name), 1, unit, name + " is private and public");
        }
        for (Element method : calls.keySet()) {
            int depth = depth(method, new LinkedHashSet<>());
            demand(depth <= MOST_DEPTH, 11, unit, method + " goes " + depth + " deep");
        }
    }

    /** How many methods stand open at once at most, a method that calls itself counted once. */
    private int depth(Element method, Set<Element> open) {
        if (depths.containsKey(method)) {
            return depths.get(method);
        }
        open.add(method);
        int deepest = 0;
        for (Element called : calls.getOrDefault(method, Set.of())) {
            boolean isPrivate = method.getModifiers().contains(Modifier.PRIVATE);
            demand(called != method || isPrivate, 8, unit, method + " calls itself and isn't private");
            if (called != method && open.contains(called)) {
                demand(false, 8, unit, method + " and " + called + " call one another");
            } else if (called != method) {
                deepest = Math.max(deepest, depth(called, open));
            }
        }
        open.remove(method);
        depths.put(method, deepest + 1);
        return deepest + 1;
    }

    private void demand(boolean is, int rule, Tree at, String why) {
        if (!is) {
            broken.add("rule " + rule + ", line " + line(trees.getSourcePositions().getStartPosition(unit, at)) + ": " + why);
        }
    }

    private long line(long position) {
        return position < 0 ? 0 : unit.getLineMap().getLineNumber(position);
    }

    private static boolean isOwn(Element e) {
        return !e.toString().startsWith("java.");
    }

    private static TypeElement classOf(Element member) {
        return (TypeElement) member.getEnclosingElement();
    }

    private Element elementAt(Tree node) {
        return trees.getElement(new TreePath(getCurrentPath(), node));
    }

    private TypeMirror typeAt(Tree node) {
        return trees.getTypeMirror(new TreePath(getCurrentPath(), node));
    }

    private Element methodAround() {
        for (TreePath path = getCurrentPath(); path != null; path = path.getParentPath()) {
            if (path.getLeaf() instanceof MethodTree) {
                return trees.getElement(path);
            }
        }
        return null;
    }

    // ---- classes and their members

    @Override
    public Void visitClass(ClassTree node, Void nothing) {
        classes++;
        Set<Modifier> marks = node.getModifiers().getFlags();
        boolean isFace = getCurrentPath().getParentPath().getLeaf() == unit;
        demand(!isFace || marks.containsAll(Set.of(Modifier.PUBLIC, Modifier.FINAL)), 1, node, "public and final");
        demand(isFace || !marks.contains(Modifier.PUBLIC) && !marks.contains(Modifier.PROTECTED), 1, node, "a class inside is hidden");
        demand(isFace || marks.contains(Modifier.STATIC), 2, node, "a class inside is static");
        int fields = 0;
        for (Tree member : node.getMembers()) {
            demand(!(member instanceof BlockTree), 5, member, "no initialiser block");
            if (member instanceof VariableTree field) {
                fields += field.getModifiers().getFlags().contains(Modifier.STATIC) ? 0 : 1;
            }
        }
        demand(fields <= MOST_FIELDS, 11, node, fields + " fields");
        return super.visitClass(node, nothing);
    }

    @Override
    public Void visitVariable(VariableTree node, Void nothing) {
        Element e = trees.getElement(getCurrentPath());
        String type = e.asType().toString();
        boolean isOwnType = !type.contains(".") || type.startsWith("KillFollows.") || type.startsWith("Sample.");
        demand(TYPES.contains(type) || isOwnType && !type.contains("[][]") && !isOtherPrimitive(type), 3, node, "a " + type);
        if (e.getKind() == ElementKind.FIELD && e.getModifiers().contains(Modifier.STATIC)) {
            demand(e.getModifiers().contains(Modifier.FINAL) && CONSTANTS.contains(type), 5, node, "static " + node.getName());
        }
        if (e.getKind() == ElementKind.FIELD && classOf(e).getEnclosingElement().getKind() == ElementKind.PACKAGE) {
            demand(e.getModifiers().contains(Modifier.PRIVATE) || e.getModifiers().contains(Modifier.PUBLIC), 1, node,
                    node.getName() + " is hidden");
        }
        return super.visitVariable(node, nothing);
    }

    private static boolean isOtherPrimitive(String type) {
        return type.matches("(double|float|short|byte|char)(\\[\\])*");
    }

    @Override
    public Void visitMethod(MethodTree node, Void nothing) {
        Element e = trees.getElement(getCurrentPath());
        boolean isConstructor = e.getKind() == ElementKind.CONSTRUCTOR;
        calls.computeIfAbsent(e, m -> new LinkedHashSet<>());
        if (e.getModifiers().contains(Modifier.PUBLIC) && !isConstructor) {
            publicNames.add(node.getName().toString());
        }
        if (e.getModifiers().contains(Modifier.PRIVATE)) {
            privateNames.add(node.getName().toString());
        }
        demand(node.getParameters().size() <= MOST_PARAMETERS, 11, node, node.getName() + "'s parameters");
        long lines = 1 + line(trees.getSourcePositions().getEndPosition(unit, node))
                - line(trees.getSourcePositions().getStartPosition(unit, node));
        demand(lines <= MOST_LINES, 11, node, node.getName() + " has " + lines + " lines");
        return super.visitMethod(node, nothing);
    }

    // ---- what is called and made

    @Override
    public Void visitMethodInvocation(MethodInvocationTree node, Void nothing) {
        lookAtCall(node, elementAt(node.getMethodSelect()));
        return super.visitMethodInvocation(node, nothing);
    }

    @Override
    public Void visitNewClass(NewClassTree node, Void nothing) {
        Element made = trees.getElement(getCurrentPath());
        if (EXCEPTIONS.contains(classOf(made).toString())) {
            demand(getCurrentPath().getParentPath().getLeaf() instanceof ThrowTree, 6, node, "an exception is thrown");
        } else {
            lookAtCall(node, made);
            lookAtRoom(node);
        }
        demand(node.getClassBody() == null, 2, node, "a class without a name");
        return super.visitNewClass(node, nothing);
    }

    @Override
    public Void visitNewArray(NewArrayTree node, Void nothing) {
        lookAtRoom(node);
        return super.visitNewArray(node, nothing);
    }

    // Stricter than the rule: what only constructors make needs no counting.
    private void lookAtRoom(Tree node) {
        Element around = methodAround();
        demand(around == null || around.getKind() == ElementKind.CONSTRUCTOR, 12, node, "made outside a constructor");
    }

    private void lookAtCall(Tree node, Element called) {
        if (isOwn(classOf(called))) {
            // What a field's initialiser calls is called by no method, but by making the object.
            if (methodAround() != null) {
                calls.computeIfAbsent(methodAround(), m -> new LinkedHashSet<>()).add(called);
            }
        } else {
            String name = classOf(called) + "." + called.getSimpleName();
            demand(LIBRARY.contains(name), 4, node, name);
        }
    }

    // ---- statements and expressions

    @Override
    public Void visitThrow(ThrowTree node, Void nothing) {
        boolean isNew = node.getExpression() instanceof NewClassTree made
                && EXCEPTIONS.contains(typeAt(made).toString())
                && made.getArguments().stream().allMatch(a -> a instanceof LiteralTree);
        demand(isNew, 6, node, "throws a new exception with a written text");
        Element around = methodAround();
        demand(around != null && around.getKind() == ElementKind.METHOD, 6, node, "no throw in a constructor");
        return super.visitThrow(node, nothing);
    }

    @Override
    public Void visitTry(TryTree node, Void nothing) {
        demand(node.getFinallyBlock() == null && node.getResources().isEmpty(), 6, node, "neither finally nor resources");
        return super.visitTry(node, nothing);
    }

    @Override
    public Void visitCatch(CatchTree node, Void nothing) {
        demand(false, 6, node, "nothing in the class throws to be caught there");
        return super.visitCatch(node, nothing);
    }

    @Override
    public Void visitBinary(BinaryTree node, Void nothing) {
        boolean isText = isBoxed(node.getLeftOperand()) && isBoxed(node.getRightOperand());
        boolean isEqual = node.getKind() == Tree.Kind.EQUAL_TO || node.getKind() == Tree.Kind.NOT_EQUAL_TO;
        demand(!isEqual || !isText, 6, node, "two texts or Integers by ==");
        demand(node.getKind() != Tree.Kind.PLUS || !isBoxed(node.getLeftOperand()) && !isBoxed(node.getRightOperand()),
                10, node, "texts joined by +");
        return super.visitBinary(node, nothing);
    }

    private boolean isBoxed(ExpressionTree side) {
        String type = typeAt(side).toString();
        return type.equals("java.lang.String") || type.equals("java.lang.Integer");
    }

    @Override
    public Void visitForLoop(ForLoopTree node, Void nothing) {
        demand(node.getCondition() != null && !(node.getCondition() instanceof LiteralTree), 9, node, "a loop has an end");
        return super.visitForLoop(node, nothing);
    }

    @Override
    public Void visitWhileLoop(WhileLoopTree node, Void nothing) {
        demand(!node.getCondition().toString().equals("(true)"), 9, node, "a loop has an end");
        return super.visitWhileLoop(node, nothing);
    }

    @Override
    public Void visitLambdaExpression(LambdaExpressionTree node, Void nothing) {
        demand(false, 2, node, "a lambda");
        return super.visitLambdaExpression(node, nothing);
    }

    @Override
    public Void visitMemberReference(MemberReferenceTree node, Void nothing) {
        demand(false, 2, node, "a method reference");
        return super.visitMemberReference(node, nothing);
    }

    @Override
    public Void visitSynchronized(SynchronizedTree node, Void nothing) {
        demand(false, 6, node, "synchronized");
        return super.visitSynchronized(node, nothing);
    }

    @Override
    public Void visitAssert(AssertTree node, Void nothing) {
        demand(false, 6, node, "assert");
        return super.visitAssert(node, nothing);
    }
}
