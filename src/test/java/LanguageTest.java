import com.sun.source.tree.AnnotationTree;
import com.sun.source.tree.AssertTree;
import com.sun.source.tree.BinaryTree;
import com.sun.source.tree.BlockTree;
import com.sun.source.tree.ClassTree;
import com.sun.source.tree.CompilationUnitTree;
import com.sun.source.tree.CompoundAssignmentTree;
import com.sun.source.tree.ImportTree;
import com.sun.source.tree.LambdaExpressionTree;
import com.sun.source.tree.MemberReferenceTree;
import com.sun.source.tree.MethodInvocationTree;
import com.sun.source.tree.MethodTree;
import com.sun.source.tree.NewClassTree;
import com.sun.source.tree.SynchronizedTree;
import com.sun.source.tree.ThrowTree;
import com.sun.source.tree.Tree;
import com.sun.source.tree.TryTree;
import com.sun.source.tree.VariableTree;
import com.sun.source.util.JavacTask;
import com.sun.source.util.SourcePositions;
import com.sun.source.util.TreePathScanner;
import com.sun.source.util.Trees;
import java.io.IOException;
import java.nio.file.Path;
import java.util.Arrays;
import java.util.HashSet;
import java.util.List;
import java.util.Set;
import java.util.TreeSet;
import javax.lang.model.element.Element;
import javax.lang.model.element.ElementKind;
import javax.lang.model.element.Modifier;
import javax.lang.model.type.TypeMirror;
import javax.tools.JavaCompiler;
import javax.tools.StandardJavaFileManager;
import javax.tools.ToolProvider;

/** What ../shared/LANGUAGE.md rules out and a reading of the program's tree can find; its rules are told by number. */
public final class LanguageTest extends TreePathScanner<Void, Void> {
    private static final String[] FACE = {"row 3", "set 3", "copy 5", "element 2", "show 2", "holds 1", "says 2",
        "person 3", "ask 1", "personOf 2", "copyOf 3", "strength 3", "drift 2", "loss 2", "land 1", "fault 0",
        "have 2", "all 1", "force 4", "got 3", "which 4", "next 3", "unlike 2", "odd 1", "mend 2", "paired 3",
        "bear 2", "heir 1", "straight 2", "judge 2", "behind 3", "done 2", "press 3", "rub 3", "dies 1", "years 1",
        "seed 1", "act 3", "trace 1", "image 0", "restore 0", "status 1", "<init> 0"};
    private static final Set<String> LIBRARY = Set.of("java.lang.System.arraycopy", "java.util.Arrays.fill",
        "java.util.Arrays.copyOf", "java.util.Arrays.copyOfRange", "java.lang.Math.max", "java.lang.Math.min",
        "java.lang.Math.abs", "java.lang.Integer.bitCount", "java.lang.String.length", "java.lang.String.charAt");

    private final CompilationUnitTree unit;
    private final Trees trees;
    private final SourcePositions positions;
    private final Set<String> faceNames = new HashSet<>();
    private int classes = 0;

    private LanguageTest(CompilationUnitTree unit, Trees trees) {
        this.unit = unit;
        this.trees = trees;
        this.positions = trees.getSourcePositions();
        for (String member : FACE) {
            faceNames.add(member.substring(0, member.indexOf(' ')));
        }
        faceNames.remove("<init>");
    }

    public static void main(String[] args) throws IOException {
        JavaCompiler compiler = ToolProvider.getSystemJavaCompiler();
        StandardJavaFileManager files = compiler.getStandardFileManager(null, null, null);
        Path source = Path.of("src", "main", "java", "CarbonCopies.java");
        JavacTask task = (JavacTask) compiler.getTask(null, files, null, List.of("-proc:none"), null,
            files.getJavaFileObjects(source));
        CompilationUnitTree unit = task.parse().iterator().next();
        task.analyze();
        LanguageTest scan = new LanguageTest(unit, Trees.instance(task));
        scan.scan(unit, null);
        Check.due("rule 11: classes, some twelve", scan.classes <= 13 ? 1 : 0, 1);
        Check.due("rule 1: no package", unit.getPackageName() == null ? 1 : 0, 1);
        Check.end("LanguageTest");
    }

    private void wrong(int rule, String what, Tree where) {
        long line = unit.getLineMap().getLineNumber(positions.getStartPosition(unit, where));
        Check.due("rule " + rule + ", line " + line + ": " + what, 0, 1);
    }

    private Void never(int rule, String what, Tree where) {
        wrong(rule, what, where);
        return null;
    }

    private void want(boolean holds, int rule, String what, Tree where) {
        if (!holds) {
            wrong(rule, what, where);
        }
    }

    @Override
    public Void visitClass(ClassTree tree, Void none) {
        classes++;
        Element element = trees.getElement(getCurrentPath());
        boolean outer = getCurrentPath().getParentPath().getLeaf() == unit;
        Set<Modifier> modifiers = tree.getModifiers().getFlags();
        if (outer) {
            want(modifiers.equals(Set.of(Modifier.PUBLIC, Modifier.FINAL)), 1, "public and final", tree);
            checkFace(tree);
        } else {
            want(element.getEnclosingElement().getKind() == ElementKind.CLASS, 2, "a class inside a method", tree);
            want(modifiers.contains(Modifier.STATIC), 2, "a class that isn't static", tree);
            want(!modifiers.contains(Modifier.PUBLIC) && !modifiers.contains(Modifier.PROTECTED), 1, "too open", tree);
        }
        int fields = 0;
        for (Tree member : tree.getMembers()) {
            if (member instanceof BlockTree) {
                wrong(5, "a block that runs of itself", member);
            }
            if (member instanceof VariableTree) {
                Set<Modifier> flags = ((VariableTree) member).getModifiers().getFlags();
                boolean isStatic = flags.contains(Modifier.STATIC);
                fields += isStatic ? 0 : 1;
                want(!isStatic || flags.contains(Modifier.FINAL), 5, "a static field that isn't final", member);
            }
        }
        want(fields <= 20, 11, fields + " fields", tree);
        return super.visitClass(tree, none);
    }

    private void checkFace(ClassTree tree) {
        Set<String> open = new TreeSet<>();
        for (Tree member : tree.getMembers()) {
            if (member instanceof MethodTree) {
                MethodTree method = (MethodTree) member;
                Set<Modifier> flags = method.getModifiers().getFlags();
                if (flags.contains(Modifier.PUBLIC)) {
                    open.add(method.getName() + " " + method.getParameters().size());
                } else {
                    want(flags.contains(Modifier.PRIVATE), 1, "a member that isn't private", member);
                }
            } else if (member instanceof VariableTree) {
                Set<Modifier> flags = ((VariableTree) member).getModifiers().getFlags();
                boolean constant = ((VariableTree) member).getName().contentEquals("NONE");
                want(flags.contains(constant ? Modifier.PUBLIC : Modifier.PRIVATE), 1, "a field of the face?", member);
            }
        }
        want(open.equals(new TreeSet<>(Arrays.asList(FACE))), 1, "another face: " + open, tree);
    }

    @Override
    public Void visitMethod(MethodTree tree, Void none) {
        boolean open = tree.getModifiers().getFlags().contains(Modifier.PUBLIC);
        String name = tree.getName().toString();
        want(open || !faceNames.contains(name), 1, "a method that bears the name of a public one: " + name, tree);
        want(!Set.of("equals", "hashCode", "toString").contains(name), 6, name, tree);
        want(tree.getParameters().size() <= 7, 11, "parameters of " + name, tree);
        want(tree.getThrows().isEmpty(), 6, "throws", tree);
        long from = unit.getLineMap().getLineNumber(positions.getStartPosition(unit, tree));
        long to = unit.getLineMap().getLineNumber(Math.max(0, positions.getEndPosition(unit, tree)));
        want(to - from < 60, 11, "lines of " + name, tree);
        return super.visitMethod(tree, none);
    }

    @Override
    public Void visitMethodInvocation(MethodInvocationTree tree, Void none) {
        Element method = trees.getElement(getCurrentPath());
        String owner = method.getEnclosingElement().toString();
        String called = owner + "." + method.getSimpleName();
        boolean own = owner.equals("CarbonCopies") || owner.startsWith("CarbonCopies.");
        boolean base = called.equals("java.lang.Object.<init>");
        want(own || base || LIBRARY.contains(called), 4, called, tree);
        return super.visitMethodInvocation(tree, none);
    }

    @Override
    public Void visitNewClass(NewClassTree tree, Void none) {
        want(tree.getClassBody() == null, 2, "a class without a name", tree);
        TypeMirror type = trees.getTypeMirror(getCurrentPath());
        want(type.toString().startsWith("CarbonCopies."), 4, "new " + type, tree);
        return super.visitNewClass(tree, none);
    }

    @Override
    public Void visitBinary(BinaryTree tree, Void none) {
        boolean text = trees.getTypeMirror(getCurrentPath()).toString().equals("java.lang.String");
        want(!text, 10, "texts joined by +", tree);
        return super.visitBinary(tree, none);
    }

    @Override
    public Void visitCompoundAssignment(CompoundAssignmentTree tree, Void none) {
        boolean text = trees.getTypeMirror(getCurrentPath()).toString().equals("java.lang.String");
        want(!text, 10, "texts joined by +=", tree);
        return super.visitCompoundAssignment(tree, none);
    }

    @Override
    public Void visitImport(ImportTree tree, Void none) {
        want(tree.getQualifiedIdentifier().toString().equals("java.util.Arrays"), 4, tree.toString(), tree);
        return super.visitImport(tree, none);
    }

    @Override
    public Void visitAnnotation(AnnotationTree tree, Void none) {
        return never(4, "an annotation", tree);
    }

    @Override
    public Void visitThrow(ThrowTree tree, Void none) {
        return never(6, "throw", tree);
    }

    @Override
    public Void visitTry(TryTree tree, Void none) {
        return never(6, "try", tree);
    }

    @Override
    public Void visitAssert(AssertTree tree, Void none) {
        return never(6, "assert", tree);
    }

    @Override
    public Void visitSynchronized(SynchronizedTree tree, Void none) {
        return never(6, "synchronized", tree);
    }

    @Override
    public Void visitLambdaExpression(LambdaExpressionTree tree, Void none) {
        return never(2, "a lambda", tree);
    }

    @Override
    public Void visitMemberReference(MemberReferenceTree tree, Void none) {
        return never(2, "a method reference", tree);
    }
}
