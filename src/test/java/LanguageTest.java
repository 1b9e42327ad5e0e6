import com.sun.source.tree.*;
import com.sun.source.util.JavacTask;
import com.sun.source.util.SourcePositions;
import com.sun.source.util.TreeScanner;
import com.sun.source.util.Trees;
import java.io.DataInputStream;
import java.io.IOException;
import java.io.InputStream;
import java.lang.reflect.Constructor;
import java.lang.reflect.Field;
import java.lang.reflect.Method;
import java.lang.reflect.Modifier;
import java.nio.file.Path;
import java.util.ArrayList;
import java.util.Arrays;
import java.util.HashMap;
import java.util.HashSet;
import java.util.List;
import java.util.Map;
import java.util.Set;
import java.util.TreeSet;
import javax.tools.JavaCompiler;
import javax.tools.StandardJavaFileManager;
import javax.tools.ToolProvider;

/** LANGUAGE.md: the face of the class, and what can be looked at in its source and in what is compiled of it. */
public final class LanguageTest {
    private static final String FACE = "axes() bestRule(int,int) drift(int) fault() feed(int) fits(int,int) goBack(int) guide(int) "
        + "judge() keep(int) look() lostWhen() minute(int) mount() nodded(int,int,int,int,int,int) nods(int,int) periods() plate() "
        + "press(int,int) rule(int,int,int) see(int,int) seed(int) shut(boolean) star(int,int) stop(int) stretch(int) "
        + "tail(int,int,int) tear() told(int) turns(int,int) undo() where(int,int) worm(int) write(int,int)";

    public static void main(String[] args) throws IOException {
        face();
        libraries();
        Look look = lookAt(Path.of(args[0]));
        CompilationUnitTree unit = look.unit;
        Check.holds("no package, no import", unit.getPackageName() == null && unit.getImports().isEmpty());
        Check.holds("one class stands in the file", unit.getTypeDecls().size() == 1);
        Check.holds("twelve classes at most, not " + look.classes, look.classes <= 12);
        Check.holds("calls go eight deep at most, not " + look.deepest(), look.deepest() <= 8);
        Check.holds("methods were looked at", look.calls.size() > 60);
        Check.end("LanguageTest");
    }

    private static void face() {
        Class<?> c = HeldOnCross.class;
        Check.holds("public and final", c.getModifiers() == (Modifier.PUBLIC | Modifier.FINAL));
        Set<String> names = new TreeSet<>();
        Set<String> open = new TreeSet<>();
        for (Method m : c.getDeclaredMethods()) {
            if (!Modifier.isPrivate(m.getModifiers())) {
                StringBuilder told = new StringBuilder();
                for (Class<?> type : m.getParameterTypes()) {
                    told.append(told.length() == 0 ? "" : ",").append(type.getName());
                }
                names.add(m.getName());
                open.add(m.getName() + "(" + told + ")");
                Check.holds(m + " is public and answers an int", m.getModifiers() == Modifier.PUBLIC && m.getReturnType() == int.class);
            }
        }
        Check.holds("the methods of the face, not " + open, open.equals(new TreeSet<>(Arrays.asList(FACE.split(" ")))));
        Set<String> constants = new TreeSet<>();
        for (Field f : c.getDeclaredFields()) {
            if (!Modifier.isPrivate(f.getModifiers())) {
                constants.add(f.getName());
            }
        }
        Check.holds("the constants of the face", constants.equals(Set.of("NONE", "UNKNOWN", "OUTSIDE", "NOT", "FULL")));
        Constructor<?>[] made = c.getDeclaredConstructors();
        Check.holds("one public constructor", made.length == 1 && Modifier.isPublic(made[0].getModifiers()));
        for (Class<?> inside : everyClass()) {
            if (inside != c) {
                Check.holds(inside + " is static, private or package-visible", Modifier.isStatic(inside.getModifiers())
                    && !Modifier.isPublic(inside.getModifiers()) && !Modifier.isProtected(inside.getModifiers()));
            }
            for (Method m : inside.getDeclaredMethods()) {
                Check.holds("no other method bears a name of the face: " + m, (inside == c && !Modifier.isPrivate(m.getModifiers())) || !names.contains(m.getName()));
            }
        }
    }

    private static List<Class<?>> everyClass() {
        List<Class<?>> all = new ArrayList<>();
        all.add(HeldOnCross.class);
        for (int i = 0; i < all.size(); i++) {
            all.addAll(Arrays.asList(all.get(i).getDeclaredClasses()));
        }
        return all;
    }

    /** Of the library the class needs Object and Math alone: so say the constants of what is compiled. */
    private static void libraries() throws IOException {
        for (Class<?> c : everyClass()) {
            for (String name : classesNamedBy(c)) {
                Check.holds(c.getName() + " uses " + name, name.startsWith("HeldOnCross") || name.startsWith("[LHeldOnCross")
                    || name.startsWith("[I") || name.equals("java/lang/Object") || name.equals("java/lang/Math"));
            }
        }
    }

    private static Set<String> classesNamedBy(Class<?> c) throws IOException {
        Map<Integer, String> texts = new HashMap<>();
        List<Integer> classes = new ArrayList<>();
        try (InputStream in = c.getResourceAsStream("/" + c.getName() + ".class"); DataInputStream data = new DataInputStream(in)) {
            data.readLong();
            int count = data.readUnsignedShort();
            for (int i = 1; i < count; i++) {
                int tag = data.readUnsignedByte();
                switch (tag) {
                    case 1 -> texts.put(i, data.readUTF());
                    case 7 -> classes.add(data.readUnsignedShort());
                    case 5, 6 -> { data.readLong(); i++; }
                    case 8, 16, 19, 20 -> data.readUnsignedShort();
                    case 15 -> { data.readUnsignedByte(); data.readUnsignedShort(); }
                    case 3, 4, 9, 10, 11, 12 -> data.readInt();
                    default -> throw new IOException("a constant of kind " + tag + " has no place here");
                }
            }
        }
        Set<String> names = new HashSet<>();
        for (int at : classes) {
            names.add(texts.get(at));
        }
        return names;
    }

    private static Look lookAt(Path file) throws IOException {
        JavaCompiler javac = ToolProvider.getSystemJavaCompiler();
        try (StandardJavaFileManager files = javac.getStandardFileManager(null, null, null)) {
            JavacTask task = (JavacTask) javac.getTask(null, files, null, null, null, files.getJavaFileObjects(file));
            CompilationUnitTree unit = task.parse().iterator().next();
            Look look = new Look(unit, Trees.instance(task).getSourcePositions());
            look.scan(unit, null);
            return look;
        }
    }

    /** What the rules forbid or bound, looked for in the source. */
    private static final class Look extends TreeScanner<Void, Void> {
        final Map<String, Set<String>> calls = new HashMap<>();
        int classes;
        private final CompilationUnitTree unit;
        private final SourcePositions positions;
        private String method = "";
        private boolean isMaking;

        Look(CompilationUnitTree unit, SourcePositions positions) {
            this.unit = unit;
            this.positions = positions;
        }

        private long linesOf(Tree tree) {
            long first = unit.getLineMap().getLineNumber(positions.getStartPosition(unit, tree));
            return unit.getLineMap().getLineNumber(positions.getEndPosition(unit, tree)) - first + 1;
        }

        private static final Set<Tree.Kind> FORBIDDEN = Set.of(Tree.Kind.THROW, Tree.Kind.TRY, Tree.Kind.CATCH, Tree.Kind.SYNCHRONIZED,
            Tree.Kind.ASSERT, Tree.Kind.LAMBDA_EXPRESSION, Tree.Kind.MEMBER_REFERENCE, Tree.Kind.SWITCH_EXPRESSION, Tree.Kind.STRING_LITERAL,
            Tree.Kind.WHILE_LOOP, Tree.Kind.DO_WHILE_LOOP, Tree.Kind.INSTANCE_OF, Tree.Kind.ANNOTATION);

        @Override
        public Void scan(Tree tree, Void v) {
            Check.holds("no " + (tree == null ? "" : tree.getKind()), tree == null || !FORBIDDEN.contains(tree.getKind()));
            return super.scan(tree, v);
        }

        @Override
        public Void visitClass(ClassTree tree, Void v) {
            classes++;
            int fields = 0;
            for (Tree member : tree.getMembers()) {
                if (member instanceof VariableTree field) {
                    boolean isStatic = field.getModifiers().getFlags().contains(javax.lang.model.element.Modifier.STATIC);
                    fields += isStatic ? 0 : 1;
                    Check.holds(field.getName() + " is final where it is static",
                        !isStatic || field.getModifiers().getFlags().contains(javax.lang.model.element.Modifier.FINAL));
                    Check.holds(field.getName() + " is made in the constructor", isStatic || field.getInitializer() == null);
                }
                Check.holds("no initialiser block in " + tree.getSimpleName(), !(member instanceof BlockTree));
            }
            Check.holds(tree.getSimpleName() + " has twenty fields at most", fields <= 20);
            return super.visitClass(tree, v);
        }

        @Override
        public Void visitMethod(MethodTree tree, Void v) {
            isMaking = tree.getReturnType() == null;
            method = tree.getName().toString();
            calls.putIfAbsent(method, new HashSet<>());
            long lines = linesOf(tree);
            Check.holds(method + " has sixty lines at most, not " + lines, lines <= 60);
            Check.holds(method + " takes seven at most", tree.getParameters().size() <= 7);
            return super.visitMethod(tree, v);
        }

        @Override
        public Void visitMethodInvocation(MethodInvocationTree tree, Void v) {
            String called = tree.getMethodSelect().toString();
            if (!called.startsWith("Math.")) {
                calls.get(method).add(called.substring(called.lastIndexOf('.') + 1));
            }
            return super.visitMethodInvocation(tree, v);
        }

        @Override
        public Void visitNewClass(NewClassTree tree, Void v) {
            Check.holds("objects are made in constructors alone: " + tree, isMaking && tree.getClassBody() == null);
            return super.visitNewClass(tree, v);
        }

        @Override
        public Void visitNewArray(NewArrayTree tree, Void v) {
            Check.holds("arrays are made in constructors alone: " + tree, isMaking);
            return super.visitNewArray(tree, v);
        }

        @Override
        public Void visitTypeCast(TypeCastTree tree, Void v) {
            Check.holds("casts are of numbers alone: " + tree, tree.getType() instanceof PrimitiveTypeTree);
            return super.visitTypeCast(tree, v);
        }

        @Override
        public Void visitForLoop(ForLoopTree tree, Void v) {
            Check.holds("a loop counts: " + tree.getCondition(), tree.getInitializer().size() == 1 && tree.getUpdate().size() == 1
                && tree.getCondition() != null);
            return super.visitForLoop(tree, v);
        }

        int deepest() {
            int most = 0;
            for (String name : calls.keySet()) {
                most = Math.max(most, depth(name, 1));
            }
            return most;
        }

        /** A name that two classes use stands for both. A call that comes back to itself is told as 99. */
        private int depth(String name, int now) {
            if (now > 20) {
                return 99;
            }
            int most = now;
            for (String called : calls.getOrDefault(name, Set.of())) {
                most = Math.max(most, depth(called, now + 1));
            }
            return most;
        }
    }
}
