import com.sun.source.tree.ArrayAccessTree;
import com.sun.source.tree.AssignmentTree;
import com.sun.source.tree.BinaryTree;
import com.sun.source.tree.BlockTree;
import com.sun.source.tree.ClassTree;
import com.sun.source.tree.CompilationUnitTree;
import com.sun.source.tree.CompoundAssignmentTree;
import com.sun.source.tree.ExpressionTree;
import com.sun.source.tree.ForLoopTree;
import com.sun.source.tree.IdentifierTree;
import com.sun.source.tree.LineMap;
import com.sun.source.tree.MethodInvocationTree;
import com.sun.source.tree.MethodTree;
import com.sun.source.tree.NewArrayTree;
import com.sun.source.tree.NewClassTree;
import com.sun.source.tree.Tree;
import com.sun.source.tree.UnaryTree;
import com.sun.source.tree.VariableTree;
import com.sun.source.util.JavacTask;
import com.sun.source.util.TreePath;
import com.sun.source.util.TreePathScanner;
import com.sun.source.util.Trees;
import java.io.IOException;
import java.lang.reflect.Field;
import java.lang.reflect.Method;
import java.lang.reflect.Modifier;
import java.nio.file.Files;
import java.nio.file.Path;
import java.util.ArrayDeque;
import java.util.ArrayList;
import java.util.Deque;
import java.util.List;
import java.util.Map;
import java.util.Set;
import java.util.TreeMap;
import java.util.TreeSet;
import javax.lang.model.element.Element;
import javax.lang.model.element.ElementKind;
import javax.lang.model.element.TypeElement;
import javax.lang.model.type.ArrayType;
import javax.lang.model.type.DeclaredType;
import javax.lang.model.type.TypeKind;
import javax.lang.model.type.TypeMirror;
import javax.tools.JavaCompiler;
import javax.tools.StandardJavaFileManager;
import javax.tools.ToolProvider;

/** The rules of ../shared/LANGUAGE.md, as far as the class's own tree, read by the compiler, tells them. */
public final class LanguageTest {
    private static final Path FILE = Path.of("src/main/java/TunnelBook.java");
    private static final Set<String> FACE = Set.of(("about between blamed chance closed count days detour end fault "
        + "feed fits flow gap lamps lime mark meeting mouth narrow reach repair run seek sight span station table "
        + "there tools unit way ways when").split(" "));
    /** What the class uses of rule 4's list; a new function is looked up there before it is put in here. */
    private static final Set<String> LIBRARY = Set.of("java.lang.Math.abs", "java.lang.Math.max", "java.lang.Math.min",
        "java.lang.Math.floorDiv", "java.lang.String.length", "java.lang.String.charAt");
    private static final Set<Tree.Kind> BANNED = Set.of(Tree.Kind.THROW, Tree.Kind.TRY, Tree.Kind.CATCH,
        Tree.Kind.SYNCHRONIZED, Tree.Kind.ASSERT, Tree.Kind.LAMBDA_EXPRESSION, Tree.Kind.MEMBER_REFERENCE,
        Tree.Kind.INSTANCE_OF, Tree.Kind.SWITCH_EXPRESSION, Tree.Kind.ANNOTATION, Tree.Kind.IMPORT,
        Tree.Kind.PACKAGE, Tree.Kind.WHILE_LOOP, Tree.Kind.DO_WHILE_LOOP, Tree.Kind.ENHANCED_FOR_LOOP);
    private static int looked = 0;
    private static int wrong = 0;

    private static void check(boolean holds, String what) {
        looked++;
        if (!holds) {
            wrong++;
            System.out.println("LanguageTest: " + what);
        }
    }

    private static void theFace() {
        Set<String> open = new TreeSet<>();
        for (Method m : TunnelBook.class.getDeclaredMethods()) {
            if (Modifier.isPrivate(m.getModifiers())) {
                continue;
            }
            check(Modifier.isPublic(m.getModifiers()), "rule 1: " + m.getName() + " is neither public nor private");
            check(open.add(m.getName()), "rule 1: " + m.getName() + " is there twice");
        }
        check(open.equals(FACE), "rule 1: the face is " + open);
        for (Field f : TunnelBook.class.getDeclaredFields()) {
            boolean constant = f.getName().equals("NONE") || f.getName().equals("FREE");
            check(Modifier.isPublic(f.getModifiers()) == constant, "rule 1: " + f);
            check(constant || Modifier.isPrivate(f.getModifiers()), "rule 1: " + f);
        }
        check(TunnelBook.class.getDeclaredConstructors().length == 1, "rule 1: one constructor");
        check(Modifier.isFinal(TunnelBook.class.getModifiers()), "rule 1: the class is final");
        check(Modifier.isPublic(TunnelBook.class.getModifiers()), "rule 1: the class is public");
    }

    private static void theClasses() {
        List<Class<?>> all = new ArrayList<>(List.of(TunnelBook.class.getDeclaredClasses()));
        for (Class<?> c : all) {
            check(Modifier.isStatic(c.getModifiers()), "rule 2: " + c + " isn't static");
            check(!Modifier.isPublic(c.getModifiers()), "rule 1: " + c + " is public");
        }
        all.add(TunnelBook.class);
        check(all.size() <= 12, "rule 11: " + all.size() + " classes");
        for (Class<?> c : all) {
            int fields = 0;
            for (Field f : c.getDeclaredFields()) {
                fields += Modifier.isStatic(f.getModifiers()) ? 0 : 1;
            }
            check(fields <= 20, "rule 11: " + c + " has " + fields + " fields");
            for (Method m : c.getDeclaredMethods()) {
                boolean open = c == TunnelBook.class && Modifier.isPublic(m.getModifiers());
                check(!FACE.contains(m.getName()) || open, "rule 1: name of " + m);
                check(!Set.of("equals", "hashCode", "toString").contains(m.getName()), "rule 6: " + m);
            }
        }
    }

    /** Goes through the whole tree of the file, and keeps who calls whom. */
    private static final class Rules extends TreePathScanner<Void, Void> {
        final Trees trees;
        final CompilationUnitTree unit;
        final Map<String, Set<String>> calls = new TreeMap<>();
        final Set<String> makers = new TreeSet<>();
        final Deque<String> inside = new ArrayDeque<>();
        int loops = 0;

        Rules(JavacTask task, CompilationUnitTree file) {
            trees = Trees.instance(task);
            unit = file;
        }

        String at(Tree tree) {
            LineMap lines = unit.getLineMap();
            return "line " + lines.getLineNumber(trees.getSourcePositions().getStartPosition(unit, tree)) + ": ";
        }

        long lines(Tree tree) {
            LineMap map = unit.getLineMap();
            long first = map.getLineNumber(trees.getSourcePositions().getStartPosition(unit, tree));
            return map.getLineNumber(trees.getSourcePositions().getEndPosition(unit, tree)) - first + 1;
        }

        String type(Tree tree) {
            TypeMirror type = trees.getTypeMirror(new TreePath(getCurrentPath(), tree));
            return type == null ? "" : type.toString();
        }

        @Override
        public Void scan(Tree tree, Void none) {
            if (tree != null) {
                check(!BANNED.contains(tree.getKind()), at(tree) + "a " + tree.getKind());
            }
            return super.scan(tree, none);
        }

        @Override
        public Void visitClass(ClassTree tree, Void none) {
            boolean member = getCurrentPath().getParentPath().getLeaf() instanceof CompilationUnitTree
                || getCurrentPath().getParentPath().getLeaf() instanceof ClassTree;
            check(member, at(tree) + "rule 2: a local or anonymous class");
            return super.visitClass(tree, none);
        }

        @Override
        public Void visitBlock(BlockTree tree, Void none) {
            check(!tree.isStatic(), at(tree) + "rule 5: a static initialiser");
            return super.visitBlock(tree, none);
        }

        @Override
        public Void visitMethod(MethodTree tree, Void none) {
            check(tree.getParameters().size() <= 7, at(tree) + "rule 11: more than seven parameters");
            check(lines(tree) <= 60, at(tree) + "rule 11: a long method");
            Element here = trees.getElement(getCurrentPath());
            inside.push(name(here));
            calls.computeIfAbsent(inside.peek(), k -> new TreeSet<>());
            super.visitMethod(tree, none);
            inside.pop();
            return null;
        }

        @Override
        public Void visitVariable(VariableTree tree, Void none) {
            Element here = trees.getElement(getCurrentPath());
            check(allowed(here.asType()), at(tree) + "rule 3: the type " + here.asType());
            if (here.getKind() == ElementKind.FIELD && here.getModifiers().toString().contains("static")) {
                check(here.getModifiers().toString().contains("final"), at(tree) + "rule 5: a static that isn't final");
                Tree value = tree.getInitializer();
                boolean written = value instanceof NewArrayTree && ((NewArrayTree) value).getInitializers() != null;
                boolean constant = ((javax.lang.model.element.VariableElement) here).getConstantValue() != null;
                check(written || constant, at(tree) + "rule 5: a static that is no constant");
            }
            return super.visitVariable(tree, none);
        }

        /** The part of rule 3 that the class needs. */
        private boolean allowed(TypeMirror type) {
            if (type.getKind() == TypeKind.ARRAY) {
                TypeMirror of = ((ArrayType) type).getComponentType();
                return of.getKind() != TypeKind.ARRAY && allowed(of) && !of.toString().equals("java.lang.String");
            }
            if (type.getKind() == TypeKind.DECLARED) {
                TypeElement named = (TypeElement) ((DeclaredType) type).asElement();
                String name = named.getQualifiedName().toString();
                return name.equals("java.lang.String") || name.startsWith("TunnelBook.");
            }
            return Set.of(TypeKind.INT, TypeKind.LONG, TypeKind.BOOLEAN).contains(type.getKind());
        }

        @Override
        public Void visitMethodInvocation(MethodInvocationTree tree, Void none) {
            String called = name(trees.getElement(getCurrentPath()));
            if (!called.endsWith(".<init>")) {
                check(called.startsWith("TunnelBook") || LIBRARY.contains(called), at(tree) + "rule 4: " + called);
                if (!inside.isEmpty()) {
                    calls.get(inside.peek()).add(called);
                }
            }
            return super.visitMethodInvocation(tree, none);
        }

        @Override
        public Void visitNewClass(NewClassTree tree, Void none) {
            made(tree);
            return super.visitNewClass(tree, none);
        }

        @Override
        public Void visitNewArray(NewArrayTree tree, Void none) {
            made(tree);
            return super.visitNewArray(tree, none);
        }

        private void made(Tree tree) {
            if (!inside.isEmpty()) {
                makers.add(inside.peek());
            }
            for (Tree around : getCurrentPath()) {
                check(!(around instanceof ForLoopTree), at(tree) + "rule 12: made in a loop");
            }
        }

        @Override
        public Void visitBinary(BinaryTree tree, Void none) {
            boolean joins = tree.getKind() == Tree.Kind.PLUS && type(tree).equals("java.lang.String");
            check(!joins, at(tree) + "rule 10: texts joined by +");
            boolean same = tree.getKind() == Tree.Kind.EQUAL_TO || tree.getKind() == Tree.Kind.NOT_EQUAL_TO;
            check(!same || !type(tree.getLeftOperand()).equals("java.lang.String"), at(tree) + "rule 6: == of texts");
            return super.visitBinary(tree, none);
        }

        /** A counter from one place to a bound: told, compared and changed on the loop's own line, and nowhere else. */
        @Override
        public Void visitForLoop(ForLoopTree tree, Void none) {
            loops++;
            boolean one = tree.getInitializer().size() == 1 && tree.getInitializer().get(0) instanceof VariableTree
                && tree.getUpdate().size() == 1 && tree.getCondition() != null;
            check(one, at(tree) + "rule 9: a loop without one counter");
            if (one) {
                String counter = ((VariableTree) tree.getInitializer().get(0)).getName().toString();
                String update = tree.getUpdate().get(0).toString().replaceAll("[ ;]", "");
                boolean up = update.equals(counter + "++");
                boolean down = Set.of(counter + "--", counter + "-=8").contains(update);
                check(up || down, at(tree) + "rule 9: the counter goes " + update);
                String bound = counter + (up ? " <" : " >");
                String condition = tree.getCondition().toString().replaceAll("[()]", "");
                boolean bounded = false;
                for (String part : condition.split(" && ")) {
                    bounded |= part.startsWith(bound);
                }
                check(bounded && !condition.contains("||"), at(tree) + "rule 9: the loop's end, " + condition);
                check(!changes(tree.getStatement(), counter), at(tree) + "rule 9: the counter is changed inside");
            }
            return super.visitForLoop(tree, none);
        }

        @Override
        public Void visitAssignment(AssignmentTree tree, Void none) {
            constantStays(tree.getVariable());
            return super.visitAssignment(tree, none);
        }

        @Override
        public Void visitCompoundAssignment(CompoundAssignmentTree tree, Void none) {
            constantStays(tree.getVariable());
            return super.visitCompoundAssignment(tree, none);
        }

        @Override
        public Void visitUnary(UnaryTree tree, Void none) {
            if (tree.getKind().toString().endsWith("CREMENT")) {
                constantStays(tree.getExpression());
            }
            return super.visitUnary(tree, none);
        }

        private void constantStays(ExpressionTree changed) {
            if (changed instanceof ArrayAccessTree) {
                Tree array = ((ArrayAccessTree) changed).getExpression();
                Element row = trees.getElement(new TreePath(getCurrentPath(), array));
                boolean constant = row != null && row.getModifiers().toString().contains("static");
                check(!constant, at(changed) + "rule 5: an array of constants is changed");
            }
        }

        private boolean changes(Tree body, String counter) {
            boolean[] found = {false};
            new TreePathScanner<Void, Void>() {
                private void target(ExpressionTree changed) {
                    boolean named = changed instanceof IdentifierTree;
                    found[0] |= named && ((IdentifierTree) changed).getName().contentEquals(counter);
                }

                @Override
                public Void visitAssignment(AssignmentTree tree, Void none) {
                    target(tree.getVariable());
                    return super.visitAssignment(tree, none);
                }

                @Override
                public Void visitCompoundAssignment(CompoundAssignmentTree tree, Void none) {
                    target(tree.getVariable());
                    return super.visitCompoundAssignment(tree, none);
                }

                @Override
                public Void visitUnary(UnaryTree tree, Void none) {
                    boolean counts = tree.getKind().toString().endsWith("CREMENT");
                    if (counts) {
                        target(tree.getExpression());
                    }
                    return super.visitUnary(tree, none);
                }
            }.scan(new TreePath(getCurrentPath(), body), null);
            return found[0];
        }

        private static String name(Element method) {
            return method.getEnclosingElement() + "." + method.getSimpleName();
        }
    }

    /** Rules 8 and 11: no method calls itself, by whatever way, and calls go eight deep at most. */
    private static int depth(Map<String, Set<String>> calls, String method, Deque<String> open) {
        check(!open.contains(method), "rule 8: " + method + " is called behind " + open);
        if (open.contains(method)) {
            return 0;
        }
        open.push(method);
        int deepest = 0;
        for (String called : calls.getOrDefault(method, Set.of())) {
            deepest = Math.max(deepest, depth(calls, called, open));
        }
        open.pop();
        return deepest + 1;
    }

    private static void theTree() throws IOException {
        JavaCompiler compiler = ToolProvider.getSystemJavaCompiler();
        try (StandardJavaFileManager files = compiler.getStandardFileManager(null, null, null)) {
            JavacTask task = (JavacTask) compiler.getTask(null, files, null, List.of("-proc:none"), null,
                files.getJavaFileObjects(FILE));
            CompilationUnitTree unit = task.parse().iterator().next();
            task.analyze();
            Rules rules = new Rules(task, unit);
            rules.scan(unit, null);
            check(rules.loops > 20 && rules.calls.size() > 100, "the tree is that of the class");
            for (String method : rules.calls.keySet()) {
                int deep = depth(rules.calls, method, new ArrayDeque<>());
                check(deep <= 8, "rule 11: " + method + " goes " + deep + " deep");
            }
            check(rules.makers.equals(Set.of("TunnelBook.Runs.replace")), "rule 12: made in " + rules.makers);
        }
    }

    private static void theSigns() throws IOException {
        for (byte sign : Files.readAllBytes(FILE)) {
            check(sign >= 1, "rule 4: a sign beyond 127");
        }
    }

    public static void main(String[] args) throws IOException {
        theFace();
        theClasses();
        theSigns();
        theTree();
        System.out.println("LanguageTest: " + (wrong == 0 ? "all rules kept" : wrong + " broken") + ", " + looked
            + " looks");
        System.exit(wrong == 0 ? 0 : 1);
    }
}
