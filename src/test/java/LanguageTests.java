import com.sun.source.tree.ClassTree;
import com.sun.source.tree.CompilationUnitTree;
import com.sun.source.tree.LineMap;
import com.sun.source.tree.MethodTree;
import com.sun.source.tree.NewArrayTree;
import com.sun.source.tree.NewClassTree;
import com.sun.source.tree.Tree;
import com.sun.source.util.JavacTask;
import com.sun.source.util.SourcePositions;
import com.sun.source.util.TreeScanner;
import com.sun.source.util.Trees;
import java.io.IOException;
import java.lang.reflect.Array;
import java.lang.reflect.Field;
import java.lang.reflect.Method;
import java.lang.reflect.Modifier;
import java.nio.file.Files;
import java.nio.file.Path;
import java.util.ArrayDeque;
import java.util.Arrays;
import java.util.Collections;
import java.util.Deque;
import java.util.IdentityHashMap;
import java.util.Set;
import java.util.TreeSet;
import java.util.regex.Matcher;
import java.util.regex.Pattern;
import javax.tools.JavaCompiler;
import javax.tools.StandardJavaFileManager;
import javax.tools.ToolProvider;

/** What of LANGUAGE.md can be asked of the source's words and of the compiled classes. */
public final class LanguageTests {
    private static final String FACE = "hill ofHill carrier churn ofChurn become as go brook rest giveUp refill feed"
        + " text law quarters days thunder then relays turnsAt bestGiven cellar odds byWhom seed voice trace sheet put"
        + " move heats judge image restore tell check count told";
    private static int wrong;

    private LanguageTests() {
    }

    public static void main(String[] args) throws IOException, IllegalAccessException {
        words(Files.readString(Path.of(args[0])));
        methods(Path.of(args[0]));
        room();
        face();
        for (Class<?> c : MilkHills.class.getDeclaredClasses()) {
            inside(c);
        }
        due(MilkHills.class.getDeclaredClasses().length <= 12, "too many classes");
        System.out.println(wrong == 0 ? "the language is kept" : wrong + " rules are not kept");
        if (wrong != 0) {
            System.exit(1);
        }
    }

    private static void due(boolean is, String what) {
        if (!is) {
            wrong++;
            System.out.println(what);
        }
    }

    private static void words(String source) {
        String code = source.replaceAll("(?s)/\\*.*?\\*/", "").replaceAll("//[^\n]*", "")
            .replaceAll("\"[^\"\n]*\"", "\"\"");
        String[] ruledOut = {"throw", "throws", "try", "catch", "synchronized", "assert", "package", "protected",
            "System\\.(?!arraycopy)\\w+", "Thread", "Random", "hashCode", "toString", "equals", "float", "double",
            "var", "yield", "native", "volatile", "transient", "\\w+Exact"};
        for (String word : ruledOut) {
            Matcher m = Pattern.compile("\\b" + word + "\\b").matcher(code);
            due(!m.find(), "ruled out: " + word);
        }
        for (String sign : new String[] {"->", "::", "@"}) {
            due(!code.contains(sign), "ruled out: " + sign);
        }
        Matcher imports = Pattern.compile("(?m)^import (.*);").matcher(code);
        while (imports.find()) {
            due(imports.group(1).equals("java.util.Arrays"), "import of " + imports.group(1));
        }
        for (char c : source.toCharArray()) {
            due(c < 128 && c != '\t', "a sign beyond 127, or a tab");
        }
        int longest = Arrays.stream(source.split("\n")).mapToInt(String::length).max().orElse(0);
        due(longest <= 120, "a line of " + longest);
    }

    /** What is made is made in constructors and initialisers alone; no method is longer than sixty lines. */
    private static void methods(Path source) throws IOException {
        JavaCompiler compiler = ToolProvider.getSystemJavaCompiler();
        try (StandardJavaFileManager files = compiler.getStandardFileManager(null, null, null)) {
            JavaCompiler.CompilationTask task =
                compiler.getTask(null, files, null, null, null, files.getJavaFileObjects(source));
            SourcePositions positions = Trees.instance(task).getSourcePositions();
            for (CompilationUnitTree unit : ((JavacTask) task).parse()) {
                new Methods(unit, positions).scan(unit, null);
            }
        }
    }

    private static final class Methods extends TreeScanner<Void, Void> {
        private final CompilationUnitTree unit;
        private final SourcePositions positions;
        private String method = "";

        Methods(CompilationUnitTree unit, SourcePositions positions) {
            this.unit = unit;
            this.positions = positions;
        }

        @Override
        public Void visitClass(ClassTree tree, Void none) {
            String outer = method;
            method = "";
            super.visitClass(tree, none);
            method = outer;
            return null;
        }

        @Override
        public Void visitMethod(MethodTree tree, Void none) {
            String outer = method;
            method = tree.getName().contentEquals("<init>") ? "" : tree.getName().toString();
            LineMap lines = unit.getLineMap();
            long first = lines.getLineNumber(positions.getStartPosition(unit, tree));
            long last = lines.getLineNumber(positions.getEndPosition(unit, tree));
            due(last - first < 60, "longer than sixty lines: " + tree.getName());
            super.visitMethod(tree, none);
            method = outer;
            return null;
        }

        @Override
        public Void visitNewClass(NewClassTree tree, Void none) {
            made(tree);
            return super.visitNewClass(tree, none);
        }

        @Override
        public Void visitNewArray(NewArrayTree tree, Void none) {
            made(tree);
            return super.visitNewArray(tree, none);
        }

        private void made(Tree tree) {
            due(method.isEmpty(), "made in " + method + ": " + tree);
        }
    }

    /** The one room of a run holds all, even if each of 512 calls were the constructor. */
    private static void room() throws IllegalAccessException {
        int calls = 512;
        Set<Object> seen = Collections.newSetFromMap(new IdentityHashMap<>());
        Deque<Object> left = new ArrayDeque<>();
        reach(new MilkHills(), seen, left);
        long elements = 0;
        while (!left.isEmpty()) {
            Object o = left.pop();
            if (o.getClass().isArray()) {
                elements += Array.getLength(o);
                for (int i = 0; i < Array.getLength(o); i++) {
                    if (!o.getClass().getComponentType().isPrimitive()) {
                        reach(Array.get(o, i), seen, left);
                    }
                }
                continue;
            }
            for (Class<?> c = o.getClass(); c != Object.class && c != String.class; c = c.getSuperclass()) {
                for (Field f : c.getDeclaredFields()) {
                    if (!Modifier.isStatic(f.getModifiers())) {
                        elements++;
                        f.setAccessible(true);
                        if (!f.getType().isPrimitive()) {
                            reach(f.get(o), seen, left);
                        }
                    }
                }
            }
        }
        due(seen.size() * calls <= 600000, "an object is made of " + seen.size() + " objects and arrays");
        due(elements * calls <= 7300000, "an object has " + elements + " fields and elements");
    }

    private static void reach(Object o, Set<Object> seen, Deque<Object> left) {
        if (o != null && seen.add(o)) {
            left.push(o);
        }
    }

    private static void face() {
        due(Modifier.isFinal(MilkHills.class.getModifiers()), "the class is not final");
        due(MilkHills.class.getDeclaredConstructors().length == 1, "more constructors than one");
        Set<String> names = new TreeSet<>(Arrays.asList(FACE.split(" ")));
        Set<String> found = new TreeSet<>();
        for (Method m : MilkHills.class.getDeclaredMethods()) {
            if (Modifier.isPublic(m.getModifiers())) {
                due(found.add(m.getName()), "twice: " + m.getName());
            } else {
                due(Modifier.isPrivate(m.getModifiers()) || m.isSynthetic(), "neither public nor private: " + m);
                due(!names.contains(m.getName()), "a private method with a public one's name: " + m);
            }
        }
        due(found.equals(names), "the face is " + found);
        for (Field f : MilkHills.class.getDeclaredFields()) {
            due(Modifier.isPrivate(f.getModifiers()), "not private: " + f);
        }
        fields(MilkHills.class);
    }

    private static void inside(Class<?> c) {
        due(Modifier.isStatic(c.getModifiers()) && !Modifier.isPublic(c.getModifiers()), "not as rule 1 has it: " + c);
        Set<String> names = new TreeSet<>(Arrays.asList(FACE.split(" ")));
        for (Method m : c.getDeclaredMethods()) {
            due(!Modifier.isPublic(m.getModifiers()), "public: " + m);
            due(m.getParameterCount() <= 7, "more than seven: " + m);
            due(!names.contains(m.getName()), "a public one's name: " + m);
        }
        fields(c);
    }

    private static void fields(Class<?> c) {
        int own = 0;
        for (Field f : c.getDeclaredFields()) {
            boolean fixed = Modifier.isStatic(f.getModifiers());
            due(!fixed || Modifier.isFinal(f.getModifiers()), "static and not final: " + f);
            own += fixed ? 0 : 1;
        }
        due(own <= 20, "too many fields: " + c);
    }
}
