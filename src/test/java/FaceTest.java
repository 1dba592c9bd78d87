import com.sun.source.tree.*;
import com.sun.source.util.JavacTask;
import com.sun.source.util.TreePath;
import com.sun.source.util.TreePathScanner;
import com.sun.source.util.Trees;
import java.io.File;
import java.io.IOException;
import java.util.ArrayList;
import java.util.Arrays;
import java.util.HashMap;
import java.util.HashSet;
import java.util.List;
import java.util.Map;
import java.util.Set;
import java.util.TreeSet;
import javax.lang.model.element.Element;
import javax.lang.model.element.ElementKind;
import javax.lang.model.element.ExecutableElement;
import javax.lang.model.element.Modifier;
import javax.lang.model.element.VariableElement;
import javax.lang.model.type.TypeKind;
import javax.tools.JavaCompiler;
import javax.tools.StandardJavaFileManager;
import javax.tools.ToolProvider;

/** The face of the document, and what LANGUAGE.md allows, read from the source itself. */
public final class FaceTest {
    private static int wrong = 0;

    private static final Set<String> FACE = new TreeSet<>(Arrays.asList(
        "CellKeeper()", "status():int", "open(int,int,int):boolean", "close(int):boolean", "rule(int,int,int):boolean",
        "cell(int,int,int,int,int):boolean", "giver(int,int,int,int):boolean", "clear(int,int,int):boolean",
        "tear(int,int,int):boolean", "block(int,int,int):int", "kind(int,int,int):int", "number(int,int,int):int",
        "givers(int,int,int):int", "part(int,int,int,int):int", "hand(int,int,int,boolean):boolean",
        "keep(int,int,int,boolean):boolean", "sound(int,int):int", "sum(int,int):int", "total(int,int,int):int",
        "secret(int,int,int):int", "kept(int,int,int):int", "thousandths(int,int,int):int", "least(int,int,int):int",
        "greatest(int,int,int):int", "safe(int,int,int):int", "unsafe(int):int", "witness(int,int,int,boolean):int",
        "seen(int,int):int", "cut(boolean,int):int", "plan(int):int", "fewest(int):int", "cost(int):int",
        "round(int,int):int", "rounded(int,int):int", "give(int):int", "gift(int,int,int):int", "agree(int,int):int",
        "NONE:int"));

    private static final Set<String> LIBRARY = new HashSet<>(Arrays.asList(
        "java.lang.Math.min", "java.lang.Math.max", "java.lang.Math.abs", "java.lang.System.arraycopy",
        "java.util.Arrays.fill", "java.lang.Object.<init>"));

    private static void hold(boolean holds, String what) {
        if (!holds) {
            wrong++;
            System.out.println("wrong: " + what);
        }
    }

    /** Walks through the file once and notes what the rules speak of. */
    private static final class Look extends TreePathScanner<Void, Void> {
        final Trees trees;
        final LineMap lines;
        final CompilationUnitTree unit;
        final Set<String> face = new TreeSet<>();
        final Set<String> faceNames = new HashSet<>();
        final Set<String> otherNames = new HashSet<>();
        final Map<Element, Set<Element>> calls = new HashMap<>();
        Element method;
        int classes;

        Look(Trees trees, CompilationUnitTree unit) {
            this.trees = trees;
            this.unit = unit;
            lines = unit.getLineMap();
        }

        String at(Tree tree) {
            return " in line " + lines.getLineNumber(trees.getSourcePositions().getStartPosition(unit, tree));
        }

        void never(Tree tree, String what) { hold(false, what + at(tree)); }

        @Override public Void visitClass(ClassTree tree, Void none) {
            classes++;
            Element element = trees.getElement(getCurrentPath());
            boolean outer = element.getSimpleName().contentEquals("CellKeeper");
            hold(!tree.getSimpleName().toString().isEmpty(), "a class without a name" + at(tree));
            if (outer) hold(element.getModifiers().containsAll(Arrays.asList(Modifier.PUBLIC, Modifier.FINAL)), "public final");
            else hold(element.getModifiers().containsAll(Arrays.asList(Modifier.PRIVATE, Modifier.STATIC)), "private static" + at(tree));
            int fields = 0;
            for (Element inside : element.getEnclosedElements()) {
                boolean isStatic = inside.getModifiers().contains(Modifier.STATIC);
                if (inside.getKind() == ElementKind.FIELD && !isStatic) fields++;
                if (inside.getKind() == ElementKind.FIELD && isStatic)
                    hold(inside.getModifiers().contains(Modifier.FINAL), "static state: " + inside);
                if (outer && !inside.getKind().isClass() && !inside.getModifiers().contains(Modifier.PRIVATE)) {
                    hold(inside.getModifiers().contains(Modifier.PUBLIC), "neither public nor private: " + inside);
                    String type = inside instanceof ExecutableElement e ? e.getReturnType().toString() : inside.asType().toString();
                    face.add(inside + (inside.getKind() == ElementKind.CONSTRUCTOR ? "" : ":" + type));
                    faceNames.add(inside.getSimpleName().toString());
                } else if (inside.getKind() == ElementKind.METHOD) {
                    otherNames.add(inside.getSimpleName().toString());
                }
            }
            hold(fields <= 20, "too many fields in " + element);
            return super.visitClass(tree, none);
        }

        @Override public Void visitMethod(MethodTree tree, Void none) {
            Element before = method;
            method = trees.getElement(getCurrentPath());
            calls.putIfAbsent(method, new HashSet<>());
            hold(tree.getParameters().size() <= 7, "too many parameters" + at(tree));
            long first = lines.getLineNumber(trees.getSourcePositions().getStartPosition(unit, tree));
            long end = trees.getSourcePositions().getEndPosition(unit, tree);
            hold(end < 0 || lines.getLineNumber(end) - first < 60, "a long method" + at(tree));
            hold(!tree.getName().contentEquals("toString") && !tree.getName().contentEquals("equals")
                && !tree.getName().contentEquals("hashCode"), "a method that may not be" + at(tree));
            super.visitMethod(tree, none);
            method = before;
            return null;
        }

        @Override public Void visitMethodInvocation(MethodInvocationTree tree, Void none) {
            Element called = trees.getElement(getCurrentPath());
            String owner = called.getEnclosingElement().toString();
            if (owner.startsWith("CellKeeper")) {
                if (method != null) calls.get(method).add(called);
            } else {
                String name = owner + "." + called.getSimpleName();
                hold(LIBRARY.contains(name), "outside the library: " + name + at(tree));
                if (name.equals("java.util.Arrays.fill"))
                    hold(called.toString().matches("fill\\((int|long)\\[\\],(int|long)\\)"), "fill of no numbers" + at(tree));
            }
            return super.visitMethodInvocation(tree, none);
        }

        @Override public Void visitVariable(VariableTree tree, Void none) {
            Element element = trees.getElement(getCurrentPath());
            hold(element.asType().toString().matches("(int|long|boolean|CellKeeper\\.\\w+)(\\[\\])?"), "a type that may not be" + at(tree));
            if (element.getModifiers().contains(Modifier.STATIC)) {
                boolean written = tree.getInitializer() instanceof NewArrayTree array && array.getInitializers() != null;
                hold(written || element instanceof VariableElement field && field.getConstantValue() != null, "static, but no constant" + at(tree));
            }
            return super.visitVariable(tree, none);
        }

        @Override public Void visitAssignment(AssignmentTree tree, Void none) {
            noConstant(tree, tree.getVariable());
            return super.visitAssignment(tree, none);
        }

        @Override public Void visitCompoundAssignment(CompoundAssignmentTree tree, Void none) {
            noConstant(tree, tree.getVariable());
            hold(tree.getKind() != Tree.Kind.DIVIDE_ASSIGNMENT && tree.getKind() != Tree.Kind.REMAINDER_ASSIGNMENT, "a divisor not looked at" + at(tree));
            return super.visitCompoundAssignment(tree, none);
        }

        @Override public Void visitUnary(UnaryTree tree, Void none) {
            if (tree.getKind().toString().matches("(PRE|POST)FIX_.*")) noConstant(tree, tree.getExpression());
            return super.visitUnary(tree, none);
        }

        void noConstant(Tree whole, Tree changed) {
            hold(!changed.toString().matches("[A-Z][A-Z_]+(\\[.*)?"), "a constant is changed" + at(whole));
        }

        /** A divisor is a number written out, or is compared in the condition about it. */
        @Override public Void visitBinary(BinaryTree tree, Void none) {
            boolean divides = tree.getKind() == Tree.Kind.DIVIDE || tree.getKind() == Tree.Kind.REMAINDER;
            if (divides && !tree.getRightOperand().toString().matches("[1-9]\\d*")) {
                String divisor = tree.getRightOperand().toString();
                boolean looked = false;
                for (Tree about : getCurrentPath())
                    looked |= about instanceof ConditionalExpressionTree c && c.getCondition().toString().matches(".*\\b" + divisor + " (>|<=) 0\\)?");
                hold(looked, "a divisor not looked at: " + divisor + at(tree));
            }
            return super.visitBinary(tree, none);
        }

        @Override public Void visitTypeCast(TypeCastTree tree, Void none) {
            hold(tree.getType().toString().equals("int"), "a cast" + at(tree));
            return super.visitTypeCast(tree, none);
        }

        @Override public Void visitNewArray(NewArrayTree tree, Void none) {
            hold(method == null, "an array made by a call" + at(tree));
            for (ExpressionTree length : tree.getDimensions())
                hold(length.toString().matches("[A-Z_0-9 *+<>()-]+(\\.length)?"), "a length that is no constant" + at(tree));
            return super.visitNewArray(tree, none);
        }

        @Override public Void visitNewClass(NewClassTree tree, Void none) {
            hold(tree.getClassBody() == null, "an anonymous class" + at(tree));
            hold(method == null || method.getKind() == ElementKind.CONSTRUCTOR, "an object made by a call" + at(tree));
            return super.visitNewClass(tree, none);
        }

        @Override public Void visitWhileLoop(WhileLoopTree tree, Void none) { never(tree, "a loop without a counter"); return super.visitWhileLoop(tree, none); }
        @Override public Void visitDoWhileLoop(DoWhileLoopTree tree, Void none) { never(tree, "a loop without a counter"); return super.visitDoWhileLoop(tree, none); }
        @Override public Void visitForLoop(ForLoopTree tree, Void none) {
            hold(tree.getCondition() != null && tree.getUpdate().size() == 1, "a loop without a counter" + at(tree));
            return super.visitForLoop(tree, none);
        }
        @Override public Void visitThrow(ThrowTree tree, Void none) { never(tree, "throw"); return null; }
        @Override public Void visitInstanceOf(InstanceOfTree tree, Void none) { never(tree, "instanceof"); return null; }
        @Override public Void visitBlock(BlockTree tree, Void none) {
            hold(!tree.isStatic(), "a static block" + at(tree));
            hold(getCurrentPath().getParentPath().getLeaf().getKind() != Tree.Kind.CLASS, "a block of a class" + at(tree));
            return super.visitBlock(tree, none);
        }
        @Override public Void visitEnhancedForLoop(EnhancedForLoopTree tree, Void none) {
            hold(trees.getTypeMirror(TreePath.getPath(unit, tree.getExpression())).getKind() == TypeKind.ARRAY, "a loop over no array" + at(tree));
            return super.visitEnhancedForLoop(tree, none);
        }
        @Override public Void visitTry(TryTree tree, Void none) { never(tree, "try"); return null; }
        @Override public Void visitAssert(AssertTree tree, Void none) { never(tree, "assert"); return null; }
        @Override public Void visitSynchronized(SynchronizedTree tree, Void none) { never(tree, "synchronized"); return null; }
        @Override public Void visitLambdaExpression(LambdaExpressionTree tree, Void none) { never(tree, "a lambda"); return null; }
        @Override public Void visitMemberReference(MemberReferenceTree tree, Void none) { never(tree, "a method reference"); return null; }
        @Override public Void visitImport(ImportTree tree, Void none) {
            hold(tree.getQualifiedIdentifier().toString().equals("java.util.Arrays"), "an import" + at(tree));
            return null;
        }

        int depth(Element from, List<Element> above) {
            if (above.contains(from)) {
                hold(false, "recursion through " + from);
                return 0;
            }
            above.add(from);
            int deepest = 0;
            for (Element to : calls.getOrDefault(from, new HashSet<>())) deepest = Math.max(deepest, depth(to, above));
            above.remove(above.size() - 1);
            return deepest + 1;
        }
    }

    public static void main(String[] args) throws IOException {
        File source = new File(args.length > 0 ? args[0] : ".", "src/main/java/CellKeeper.java");
        JavaCompiler compiler = ToolProvider.getSystemJavaCompiler();
        StandardJavaFileManager files = compiler.getStandardFileManager(null, null, null);
        JavacTask task = (JavacTask) compiler.getTask(null, files, null, Arrays.asList("-proc:none"), null, files.getJavaFileObjects(source));
        CompilationUnitTree unit = task.parse().iterator().next();
        task.analyze();
        Look look = new Look(Trees.instance(task), unit);
        look.scan(unit, null);
        hold(look.face.equals(FACE), "the face is " + look.face);
        hold(unit.getPackageName() == null, "a package line");
        hold(unit.getTypeDecls().size() == 1, "more than one class of its own");
        hold(unit.getSourceFile().getCharContent(true).chars().allMatch(c -> c == '\n' || c >= 32 && c < 127), "a sign beyond 127");
        hold(look.classes <= 12, "too many classes: " + look.classes);
        look.otherNames.retainAll(look.faceNames);
        hold(look.otherNames.isEmpty(), "names of the face borne by others: " + look.otherNames);
        int deepest = 0;
        for (Element method : look.calls.keySet()) deepest = Math.max(deepest, look.depth(method, new ArrayList<>()));
        hold(deepest <= 8, "calls go " + deepest + " deep");
        System.out.println("FaceTest: " + look.classes + " classes, calls " + deepest + " deep, " + wrong + " wrong");
        if (wrong != 0) System.exit(1);
    }
}
