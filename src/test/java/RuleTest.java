import com.sun.source.tree.AssertTree;
import com.sun.source.tree.BinaryTree;
import com.sun.source.tree.ClassTree;
import com.sun.source.tree.CompilationUnitTree;
import com.sun.source.tree.ImportTree;
import com.sun.source.tree.LambdaExpressionTree;
import com.sun.source.tree.LiteralTree;
import com.sun.source.tree.MemberReferenceTree;
import com.sun.source.tree.MemberSelectTree;
import com.sun.source.tree.MethodInvocationTree;
import com.sun.source.tree.MethodTree;
import com.sun.source.tree.NewClassTree;
import com.sun.source.tree.SynchronizedTree;
import com.sun.source.tree.ThrowTree;
import com.sun.source.tree.Tree;
import com.sun.source.tree.TryTree;
import com.sun.source.tree.VariableTree;
import com.sun.source.util.JavacTask;
import com.sun.source.util.TreePath;
import com.sun.source.util.TreePathScanner;
import com.sun.source.util.Trees;
import java.io.File;
import java.util.ArrayList;
import java.util.Arrays;
import java.util.HashMap;
import java.util.HashSet;
import java.util.LinkedHashMap;
import java.util.LinkedHashSet;
import java.util.List;
import java.util.Map;
import java.util.Set;
import javax.lang.model.element.Element;
import javax.lang.model.element.ElementKind;
import javax.lang.model.element.Modifier;
import javax.tools.JavaCompiler;
import javax.tools.StandardJavaFileManager;
import javax.tools.ToolProvider;

/** What of ../shared/LANGUAGE.md can be seen in the source of MixStage. */
public final class RuleTest {
    private static final Set<String> FACE = new HashSet<>(Arrays.asList("feed", "back", "read", "place", "reel", "edition",
            "keep", "blank", "frames", "old", "sound", "trim", "mute", "mixed", "wave", "sample", "mouth", "mark", "hisses",
            "make", "again", "length", "heard", "about", "leans", "cues", "cue", "fate", "goes", "quarrel", "loud", "tame",
            "seam", "fit", "sounding", "owed", "count"));
    private static final Set<String> LIBRARY = new HashSet<>(Arrays.asList("Math.max", "Math.min", "Math.abs",
            "Integer.bitCount", "Arrays.fill", "String.charAt", "String.length"));

    private static int wrong = 0;
    private static Trees trees;
    private static CompilationUnitTree unit;
    private static final Map<Element, Set<Element>> CALLS = new LinkedHashMap<>();
    private static final Map<Element, Integer> DEPTHS = new HashMap<>();

    private static void fault(String text) {
        wrong++;
        System.out.println("rule broken: " + text);
    }

    private static long lineOf(long position) {
        return unit.getLineMap().getLineNumber(position);
    }

    public static void main(String[] args) throws Exception {
        JavaCompiler compiler = ToolProvider.getSystemJavaCompiler();
        StandardJavaFileManager files = compiler.getStandardFileManager(null, null, null);
        JavacTask task = (JavacTask) compiler.getTask(null, files, null, Arrays.asList("-proc:none"), null,
                files.getJavaFileObjects(new File("src/main/java/MixStage.java")));
        unit = task.parse().iterator().next();
        task.analyze();
        trees = Trees.instance(task);
        for (ImportTree one : unit.getImports()) {
            if (!one.getQualifiedIdentifier().toString().equals("java.util.Arrays")) {
                fault("import of " + one);
            }
        }
        new Looker().scan(unit, null);
        for (Element method : CALLS.keySet()) {
            int depth = depthOf(method, new LinkedHashSet<>());
            if (depth > 8) {
                fault("calls from " + method + " go " + depth + " deep");
            }
        }
        int deepest = 0;
        for (int depth : DEPTHS.values()) {
            deepest = Math.max(deepest, depth);
        }
        System.out.println("rules: deepest call " + deepest + ", " + wrong + " wrong");
        System.exit(wrong == 0 ? 0 : 1);
    }

    /** Recursion is not counted: a method that is open already adds nothing. */
    private static int depthOf(Element method, Set<Element> open) {
        if (DEPTHS.containsKey(method)) {
            return DEPTHS.get(method);
        }
        if (!open.add(method)) {
            return 0;
        }
        int deepest = 0;
        for (Element called : CALLS.getOrDefault(method, new LinkedHashSet<>())) {
            deepest = Math.max(deepest, depthOf(called, open));
        }
        open.remove(method);
        DEPTHS.put(method, deepest + 1);
        return deepest + 1;
    }

    private static final class Looker extends TreePathScanner<Void, Void> {
        private final List<Element> methods = new ArrayList<>();
        private int classes = 0;

        private Element element() {
            return trees.getElement(getCurrentPath());
        }

        @Override
        public Void visitCompilationUnit(CompilationUnitTree node, Void p) {
            super.visitCompilationUnit(node, p);
            if (classes > 12) {
                fault(classes + " classes");
            }
            return null;
        }

        @Override
        public Void visitClass(ClassTree node, Void p) {
            classes++;
            boolean outer = node.getSimpleName().contentEquals("MixStage");
            Set<Modifier> flags = node.getModifiers().getFlags();
            if (!outer && !(flags.contains(Modifier.PRIVATE) && flags.contains(Modifier.STATIC))) {
                fault("class " + node.getSimpleName() + " is not private static");
            }
            int fields = 0;
            for (Tree member : node.getMembers()) {
                if (member instanceof VariableTree) {
                    Set<Modifier> own = ((VariableTree) member).getModifiers().getFlags();
                    fields += own.contains(Modifier.STATIC) ? 0 : 1;
                    if (own.contains(Modifier.STATIC) && !own.contains(Modifier.FINAL)) {
                        fault("static state " + member);
                    }
                    boolean isNone = outer && ((VariableTree) member).getName().contentEquals("NONE");
                    if (!own.contains(Modifier.PRIVATE) && !isNone) {
                        fault("field not private: " + member);
                    }
                }
            }
            if (fields > 20) {
                fault(fields + " fields in " + node.getSimpleName());
            }
            return super.visitClass(node, p);
        }

        @Override
        public Void visitMethod(MethodTree node, Void p) {
            Element self = element();
            String name = node.getName().toString();
            boolean isPublic = node.getModifiers().getFlags().contains(Modifier.PUBLIC);
            boolean outer = self.getEnclosingElement().getSimpleName().contentEquals("MixStage");
            long first = trees.getSourcePositions().getStartPosition(unit, node);
            long last = trees.getSourcePositions().getEndPosition(unit, node);
            if (first >= 0 && last >= 0 && lineOf(last) - lineOf(first) + 1 > 60) {
                fault(name + " has more than 60 lines");
            }
            if (node.getParameters().size() > 7) {
                fault(name + " has more than seven parameters");
            }
            boolean isConstructor = name.equals("<init>");
            if (isPublic && !(outer && (isConstructor || FACE.contains(name)))) {
                fault(name + " is public");
            }
            if (!isPublic && !isConstructor && !node.getModifiers().getFlags().contains(Modifier.PRIVATE)) {
                fault(name + " is not private");
            }
            if (!isPublic && FACE.contains(name)) {
                fault(name + " bears the name of a public method");
            }
            CALLS.put(self, new LinkedHashSet<>());
            methods.add(self);
            super.visitMethod(node, p);
            methods.remove(methods.size() - 1);
            return null;
        }

        private void call(Element called, Tree node) {
            if (called == null || methods.isEmpty()) {
                return;
            }
            Element owner = called.getEnclosingElement();
            String text = owner.getSimpleName() + "." + called.getSimpleName();
            boolean own = owner.toString().startsWith("MixStage");
            if (own) {
                CALLS.get(methods.get(methods.size() - 1)).add(called);
            } else if (!LIBRARY.contains(text) && called.getKind() != ElementKind.CONSTRUCTOR) {
                fault("call of " + text + " in line " + lineOf(trees.getSourcePositions().getStartPosition(unit, node)));
            }
        }

        @Override
        public Void visitMethodInvocation(MethodInvocationTree node, Void p) {
            call(trees.getElement(new TreePath(getCurrentPath(), node.getMethodSelect())), node);
            return super.visitMethodInvocation(node, p);
        }

        /** Of the library only functions are listed, no constants. */
        @Override
        public Void visitMemberSelect(MemberSelectTree node, Void p) {
            Element chosen = element();
            boolean isField = chosen != null && chosen.getKind() == ElementKind.FIELD;
            if (isField && !node.getIdentifier().contentEquals("length")
                    && !chosen.getEnclosingElement().toString().startsWith("MixStage")) {
                fault("use of " + node);
            }
            return super.visitMemberSelect(node, p);
        }

        @Override
        public Void visitNewClass(NewClassTree node, Void p) {
            if (node.getClassBody() != null) {
                fault("anonymous class");
            }
            call(element(), node);
            return super.visitNewClass(node, p);
        }

        @Override
        public Void visitBinary(BinaryTree node, Void p) {
            if (node.getKind() == Tree.Kind.PLUS && (isText(node.getLeftOperand()) || isText(node.getRightOperand()))) {
                fault("texts joined by +");
            }
            return super.visitBinary(node, p);
        }

        private boolean isText(Tree node) {
            return node instanceof LiteralTree && ((LiteralTree) node).getValue() instanceof String;
        }

        @Override
        public Void visitThrow(ThrowTree node, Void p) {
            fault("throw");
            return super.visitThrow(node, p);
        }

        @Override
        public Void visitTry(TryTree node, Void p) {
            fault("try");
            return super.visitTry(node, p);
        }

        @Override
        public Void visitAssert(AssertTree node, Void p) {
            fault("assert");
            return super.visitAssert(node, p);
        }

        @Override
        public Void visitSynchronized(SynchronizedTree node, Void p) {
            fault("synchronized");
            return super.visitSynchronized(node, p);
        }

        @Override
        public Void visitLambdaExpression(LambdaExpressionTree node, Void p) {
            fault("lambda");
            return super.visitLambdaExpression(node, p);
        }

        @Override
        public Void visitMemberReference(MemberReferenceTree node, Void p) {
            fault("method reference");
            return super.visitMemberReference(node, p);
        }
    }
}
