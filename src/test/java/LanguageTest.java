import com.sun.source.tree.AnnotationTree;
import com.sun.source.tree.AssertTree;
import com.sun.source.tree.BinaryTree;
import com.sun.source.tree.BlockTree;
import com.sun.source.tree.ClassTree;
import com.sun.source.tree.CompilationUnitTree;
import com.sun.source.tree.ImportTree;
import com.sun.source.tree.LambdaExpressionTree;
import com.sun.source.tree.LiteralTree;
import com.sun.source.tree.MemberReferenceTree;
import com.sun.source.tree.MethodTree;
import com.sun.source.tree.NewClassTree;
import com.sun.source.tree.SynchronizedTree;
import com.sun.source.tree.ThrowTree;
import com.sun.source.tree.Tree;
import com.sun.source.tree.TryTree;
import com.sun.source.tree.VariableTree;
import com.sun.source.util.JavacTask;
import com.sun.source.util.SourcePositions;
import com.sun.source.util.TreeScanner;
import com.sun.source.util.Trees;
import java.io.File;
import java.lang.reflect.Constructor;
import java.lang.reflect.Field;
import java.lang.reflect.Method;
import java.lang.reflect.Modifier;
import java.util.ArrayList;
import java.util.Arrays;
import java.util.List;
import java.util.Set;
import java.util.TreeSet;
import javax.tools.JavaCompiler;
import javax.tools.StandardJavaFileManager;
import javax.tools.ToolProvider;

/** The face of the document, and those rules of LANGUAGE.md that can be read off the source. */
public final class LanguageTest {
    private static final String FACE = "again() int,add(int int) int,ahead(int int int) int,alter(int int int) int,"
            + "ask(int int) int,back(int) int,bears(int int) int,count(int) int,cut(int) int,drop(int) int,end(int) int,"
            + "fault() int,feed(int) int,flow(int int int) int,forget(int) int,geyser(int int) int,hours(int) int,"
            + "keep(int) int,kind(int int int) int,kinds(int) int,lay(int int int) int,luck(int int int int) long,"
            + "mean(int int int) long,nerves(int) int,open(int int int) int,play(int int) int,read(int int int int) int,"
            + "route(int int) int,row(int int) int,rule(int) int,runs(int int) int,season(int int int) int,"
            + "see(int int int) int,set(int int int) int,sheet(int int int) int,swap(int int) int,tell(int int) int,"
            + "text() int,torn() int,ups(int) int,when(int) int,whom(int int int) int";
    private static int wrong = 0;

    private static void blame(String what) {
        wrong++;
        System.out.println(what);
    }

    public static void main(String[] args) throws Exception {
        face();
        source(new File("src/main/java/GeyserNerves.java"));
        System.out.println(wrong == 0 ? "the source is as told" : wrong + " rules are broken");
        if (wrong != 0) {
            System.exit(1);
        }
    }

    private static void face() {
        Set<String> found = new TreeSet<>();
        Set<String> names = new TreeSet<>();
        for (Method m : GeyserNerves.class.getDeclaredMethods()) {
            if (Modifier.isPublic(m.getModifiers())) {
                StringBuilder b = new StringBuilder(m.getName()).append('(');
                for (Class<?> p : m.getParameterTypes()) {
                    b.append(b.charAt(b.length() - 1) == '(' ? "" : " ").append(p.getName());
                }
                found.add(b.append(") ").append(m.getReturnType().getName()).toString());
                names.add(m.getName());
            } else if (!Modifier.isPrivate(m.getModifiers())) {
                blame("a method that is not private: " + m);
            }
        }
        Set<String> due = new TreeSet<>(Arrays.asList(FACE.split(",")));
        if (!found.equals(due)) {
            blame("the face is " + found);
        }
        for (Method m : GeyserNerves.class.getDeclaredMethods()) {
            if (Modifier.isPrivate(m.getModifiers()) && names.contains(m.getName())) {
                blame("a private method bears a public name: " + m);
            }
        }
        for (Class<?> c : GeyserNerves.class.getDeclaredClasses()) {
            for (Method m : c.getDeclaredMethods()) {
                if (names.contains(m.getName())) {
                    blame("a method inside bears a public name: " + m);
                }
            }
        }
        for (Field f : GeyserNerves.class.getDeclaredFields()) {
            boolean told = List.of("BAD", "STATE", "FULL", "NONE").contains(f.getName());
            if (told != Modifier.isPublic(f.getModifiers()) || !told && !Modifier.isPrivate(f.getModifiers())) {
                blame("a field: " + f);
            }
        }
        Constructor<?>[] made = GeyserNerves.class.getDeclaredConstructors();
        if (made.length != 1 || !Modifier.isPublic(made[0].getModifiers()) || made[0].getParameterCount() != 0) {
            blame("the constructor");
        }
        if (!Modifier.isFinal(GeyserNerves.class.getModifiers())) {
            blame("the class is not final");
        }
    }

    private static void source(File file) throws Exception {
        JavaCompiler compiler = ToolProvider.getSystemJavaCompiler();
        try (StandardJavaFileManager files = compiler.getStandardFileManager(null, null, null)) {
            JavacTask task = (JavacTask) compiler.getTask(null, files, null, null, null,
                    files.getJavaFileObjects(file));
            for (CompilationUnitTree unit : task.parse()) {
                if (unit.getPackageName() != null) {
                    blame("a package line");
                }
                new Scan(unit, Trees.instance(task).getSourcePositions()).scan(unit, null);
            }
        }
    }

    private static final class Scan extends TreeScanner<Void, Void> {
        private final CompilationUnitTree unit;
        private final SourcePositions places;
        private int classes = 0;

        Scan(CompilationUnitTree unit, SourcePositions places) {
            this.unit = unit;
            this.places = places;
        }

        private long line(Tree t, boolean last) {
            long at = last ? places.getEndPosition(unit, t) : places.getStartPosition(unit, t);
            return unit.getLineMap().getLineNumber(at);
        }

        private Void no(Tree t, String what) {
            blame("line " + line(t, false) + ": " + what);
            return null;
        }

        @Override public Void visitThrow(ThrowTree t, Void v) {
            return no(t, "throw");
        }

        @Override public Void visitTry(TryTree t, Void v) {
            return no(t, "try");
        }

        @Override public Void visitSynchronized(SynchronizedTree t, Void v) {
            return no(t, "synchronized");
        }

        @Override public Void visitAssert(AssertTree t, Void v) {
            return no(t, "assert");
        }

        @Override public Void visitLambdaExpression(LambdaExpressionTree t, Void v) {
            return no(t, "lambda");
        }

        @Override public Void visitMemberReference(MemberReferenceTree t, Void v) {
            return no(t, "method reference");
        }

        @Override public Void visitAnnotation(AnnotationTree t, Void v) {
            return no(t, "annotation");
        }

        @Override public Void visitImport(ImportTree t, Void v) {
            return no(t, "import of what this class does not need");
        }

        @Override public Void visitNewClass(NewClassTree t, Void v) {
            if (t.getClassBody() != null) {
                no(t, "anonymous class");
            }
            return super.visitNewClass(t, v);
        }

        @Override public Void visitBinary(BinaryTree t, Void v) {
            boolean text = isText(t.getLeftOperand()) || isText(t.getRightOperand());
            return text ? no(t, "an operator on a text") : super.visitBinary(t, v);
        }

        private static boolean isText(Tree t) {
            return t instanceof LiteralTree && ((LiteralTree) t).getValue() instanceof String;
        }

        @Override public Void visitMethod(MethodTree t, Void v) {
            if (t.getParameters().size() > 7) {
                no(t, "more than seven parameters");
            }
            if (line(t, true) - line(t, false) + 1 > 60) {
                no(t, "a method of more than sixty lines");
            }
            return super.visitMethod(t, v);
        }

        @Override public Void visitClass(ClassTree t, Void v) {
            classes++;
            if (classes > 12) {
                no(t, "more than twelve classes");
            }
            Set<javax.lang.model.element.Modifier> flags = t.getModifiers().getFlags();
            if (classes > 1 && !flags.contains(javax.lang.model.element.Modifier.STATIC)) {
                no(t, "a class inside that is not static");
            }
            int fields = 0;
            for (Tree member : new ArrayList<Tree>(t.getMembers())) {
                if (member instanceof BlockTree) {
                    no(member, "an initialiser block");
                }
                if (member instanceof VariableTree) {
                    fields += isConstant((VariableTree) member) ? 0 : 1;
                }
            }
            if (fields > 20) {
                no(t, "more than twenty fields");
            }
            return super.visitClass(t, v);
        }

        private boolean isConstant(VariableTree t) {
            Set<javax.lang.model.element.Modifier> flags = t.getModifiers().getFlags();
            boolean fixed = flags.contains(javax.lang.model.element.Modifier.STATIC);
            if (fixed && !flags.contains(javax.lang.model.element.Modifier.FINAL)) {
                no(t, "a static field that is not final");
            }
            return fixed;
        }
    }
}
