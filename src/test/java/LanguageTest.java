import com.sun.source.tree.AssertTree;
import com.sun.source.tree.BlockTree;
import com.sun.source.tree.ClassTree;
import com.sun.source.tree.CompilationUnitTree;
import com.sun.source.tree.ImportTree;
import com.sun.source.tree.LambdaExpressionTree;
import com.sun.source.tree.LineMap;
import com.sun.source.tree.LiteralTree;
import com.sun.source.tree.MemberReferenceTree;
import com.sun.source.tree.MethodInvocationTree;
import com.sun.source.tree.MethodTree;
import com.sun.source.tree.NewArrayTree;
import com.sun.source.tree.NewClassTree;
import com.sun.source.tree.SynchronizedTree;
import com.sun.source.tree.ThrowTree;
import com.sun.source.tree.Tree;
import com.sun.source.tree.TryTree;
import com.sun.source.tree.VariableTree;
import com.sun.source.util.JavacTask;
import com.sun.source.util.TreePathScanner;
import com.sun.source.util.Trees;
import java.io.File;
import java.io.IOException;
import java.util.HashMap;
import java.util.HashSet;
import java.util.List;
import java.util.Map;
import java.util.Set;
import java.util.TreeSet;
import javax.lang.model.element.Element;
import javax.lang.model.element.ElementKind;
import javax.lang.model.element.Modifier;
import javax.tools.JavaCompiler;
import javax.tools.StandardJavaFileManager;
import javax.tools.ToolProvider;

/** The rules of LANGUAGE.md that can be read off the source of the class. */
public final class LanguageTest {
    private static final Check CHECK = new Check("LanguageTest");
    private static final Set<String> LIBRARY = Set.of("min", "max", "floorMod", "arraycopy", "fill");
    private static final List<String> FACE = List.of(
        "ModalKeys()", "type(int)", "line()", "letter(int)", "store(int)", "mark(int)", "count(int)", "key(int)",
        "price(int,int)", "leads(int,int)", "steps(int,int)", "farthest(int)", "once(int)", "goes(int,int)",
        "struck(int,int,int)", "image()", "restore()", "play(int,int,int,int)", "film(int,int,int,int,int)",
        "sheet(int,int,int)", "drop(int)", "item(int,int,int,long)", "copy(int,int,int,int,int)",
        "BAD", "NOT", "FULL", "NONE", "NULL", "CAST", "INDEX", "SIZE");

    public static void main(String[] args) throws IOException {
        JavaCompiler compiler = ToolProvider.getSystemJavaCompiler();
        StandardJavaFileManager files = compiler.getStandardFileManager(null, null, null);
        JavacTask task = (JavacTask) compiler.getTask(null, files, null, List.of("-proc:none"), null,
            files.getJavaFileObjects(new File("src/main/java/ModalKeys.java")));
        CompilationUnitTree unit = task.parse().iterator().next();
        task.analyze();
        Rules rules = new Rules(Trees.instance(task), unit);
        rules.scan(unit, null);
        rules.end();
        CHECK.end();
    }

    /** Walks over the source, and gathers the face and who calls whom. */
    private static final class Rules extends TreePathScanner<Void, Void> {
        private final Trees trees;
        private final CompilationUnitTree unit;
        private final LineMap lines;
        private final Set<String> open = new TreeSet<>();
        private final Set<String> openNames = new HashSet<>();
        private final Set<String> hiddenNames = new HashSet<>();
        private final Map<Element, Set<Element>> calls = new HashMap<>();
        private Element method = null;
        private int classes = 0;

        Rules(Trees trees, CompilationUnitTree unit) {
            this.trees = trees;
            this.unit = unit;
            this.lines = unit.getLineMap();
        }

        private void refuse(int rule, Tree tree, String why) {
            long at = lines.getLineNumber(trees.getSourcePositions().getStartPosition(unit, tree));
            CHECK.holds("rule " + rule + ", line " + at + ": " + why, false);
        }

        @Override
        public Void visitImport(ImportTree tree, Void p) {
            if (!tree.getQualifiedIdentifier().toString().equals("java.util.Arrays")) {
                refuse(4, tree, "import");
            }
            return null;
        }

        @Override
        public Void visitClass(ClassTree tree, Void p) {
            classes++;
            boolean top = getCurrentPath().getParentPath().getLeaf() == unit;
            Set<Modifier> flags = tree.getModifiers().getFlags();
            if (!flags.contains(Modifier.FINAL) || flags.contains(Modifier.PUBLIC) != top) {
                refuse(1, tree, "class " + tree.getSimpleName() + " is " + flags);
            }
            if (!top && !flags.contains(Modifier.STATIC)) {
                refuse(2, tree, "class " + tree.getSimpleName() + " is not static");
            }
            int fields = 0;
            for (Tree member : tree.getMembers()) {
                if (member instanceof VariableTree && !((VariableTree) member).getModifiers().getFlags().contains(Modifier.STATIC)) {
                    fields++;
                }
                if (member instanceof BlockTree) {
                    refuse(5, member, "initialiser block");
                }
            }
            CHECK.holds("rule 11: fields of " + tree.getSimpleName() + ": " + fields, fields <= 20);
            return super.visitClass(tree, p);
        }

        @Override
        public Void visitVariable(VariableTree tree, Void p) {
            Element e = trees.getElement(getCurrentPath());
            if (e.getKind() == ElementKind.FIELD) {
                Set<Modifier> flags = tree.getModifiers().getFlags();
                if (!flags.contains(Modifier.PRIVATE)) {
                    open.add(tree.getName().toString());
                }
                if (flags.contains(Modifier.STATIC) && !flags.contains(Modifier.FINAL)) {
                    refuse(5, tree, "static field " + tree.getName());
                }
            }
            return super.visitVariable(tree, p);
        }

        @Override
        public Void visitMethod(MethodTree tree, Void p) {
            Element e = trees.getElement(getCurrentPath());
            boolean made = trees.getSourcePositions().getEndPosition(unit, tree) > trees.getSourcePositions().getStartPosition(unit, tree);
            String name = e.getSimpleName().toString();
            boolean ofTop = e.getEnclosingElement().getSimpleName().contentEquals("ModalKeys");
            if (tree.getModifiers().getFlags().contains(Modifier.PRIVATE)) {
                hiddenNames.add(name);
            } else if (ofTop || e.getKind() != ElementKind.CONSTRUCTOR) {
                open.add(e.toString());
                openNames.add(name);
            }
            if (tree.getParameters().size() > 7) {
                refuse(11, tree, "more than seven parameters");
            }
            long from = lines.getLineNumber(trees.getSourcePositions().getStartPosition(unit, tree));
            long to = made ? lines.getLineNumber(trees.getSourcePositions().getEndPosition(unit, tree)) : from;
            CHECK.holds("rule 11: " + name + " has " + (to - from + 1) + " lines", to - from + 1 <= 60);
            method = e;
            calls.put(e, new HashSet<>());
            super.visitMethod(tree, p);
            method = null;
            return null;
        }

        @Override
        public Void visitMethodInvocation(MethodInvocationTree tree, Void p) {
            Element called = trees.getElement(new com.sun.source.util.TreePath(getCurrentPath(), tree.getMethodSelect()));
            boolean own = called.getEnclosingElement().toString().startsWith("ModalKeys");
            boolean ofObject = called.getKind() == ElementKind.CONSTRUCTOR;
            if (!own && !ofObject && !LIBRARY.contains(called.getSimpleName().toString())) {
                refuse(4, tree, "calls " + called);
            }
            if (method != null && !ofObject) {
                calls.get(method).add(called);
            }
            return super.visitMethodInvocation(tree, p);
        }

        @Override
        public Void visitNewClass(NewClassTree tree, Void p) {
            if (tree.getClassBody() != null) {
                refuse(2, tree, "anonymous class");
            }
            if (method != null && method.getKind() != ElementKind.CONSTRUCTOR) {
                refuse(12, tree, "an object is made by a call");
            }
            return super.visitNewClass(tree, p);
        }

        @Override
        public Void visitNewArray(NewArrayTree tree, Void p) {
            if (method != null) {
                refuse(12, tree, "an array is made by a call");
            }
            return super.visitNewArray(tree, p);
        }

        @Override
        public Void visitLiteral(LiteralTree tree, Void p) {
            if (tree.getKind() == Tree.Kind.STRING_LITERAL || tree.getKind() == Tree.Kind.DOUBLE_LITERAL) {
                refuse(3, tree, "a constant that the class has no use for");
            }
            return null;
        }

        @Override
        public Void visitThrow(ThrowTree tree, Void p) {
            refuse(6, tree, "throw");
            return null;
        }

        @Override
        public Void visitTry(TryTree tree, Void p) {
            refuse(6, tree, "try");
            return null;
        }

        @Override
        public Void visitSynchronized(SynchronizedTree tree, Void p) {
            refuse(6, tree, "synchronized");
            return null;
        }

        @Override
        public Void visitAssert(AssertTree tree, Void p) {
            refuse(6, tree, "assert");
            return null;
        }

        @Override
        public Void visitLambdaExpression(LambdaExpressionTree tree, Void p) {
            refuse(2, tree, "lambda");
            return null;
        }

        @Override
        public Void visitMemberReference(MemberReferenceTree tree, Void p) {
            refuse(2, tree, "method reference");
            return null;
        }

        void end() {
            CHECK.due("rule 1: the face", open.toString(), new TreeSet<>(FACE).toString());
            hiddenNames.remove("<init>");
            hiddenNames.retainAll(openNames);
            CHECK.due("rule 1: private methods that bear a public name", hiddenNames.toString(), "[]");
            CHECK.holds("rule 11: " + classes + " classes", classes <= 12);
            CHECK.holds("a package line", unit.getPackageName() == null);
            for (Element e : calls.keySet()) {
                int deep = depth(e, 1);
                CHECK.holds("rule 11: calls from " + e + " go " + deep + " deep", deep <= 8);
            }
        }

        /** How many calls stand open at most, the first and the library's with them; beyond 20 it is a recursion. */
        private int depth(Element e, int level) {
            int deepest = 1;
            if (level <= 20) {
                for (Element called : calls.getOrDefault(e, Set.of())) {
                    deepest = Math.max(deepest, 1 + depth(called, level + 1));
                }
            }
            return deepest;
        }
    }
}
