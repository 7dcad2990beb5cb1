import java.io.IOException;
import java.lang.reflect.Field;
import java.lang.reflect.Method;
import java.lang.reflect.Modifier;
import java.nio.file.Files;
import java.nio.file.Path;
import java.util.Arrays;
import java.util.Set;
import java.util.TreeSet;
import java.util.regex.Matcher;
import java.util.regex.Pattern;

/** What of LANGUAGE.md can be asked of the source's words and of the compiled classes. */
public final class LanguageTests {
    private static final String FACE = "hill ofHill carrier churn ofChurn become as go brook rest giveUp refill feed"
        + " text law quarters days thunder then relays turnsAt bestGiven cellar odds byWhom seed voice trace sheet put"
        + " move heats judge image restore tell check count told";
    private static int wrong;

    private LanguageTests() {
    }

    public static void main(String[] args) throws IOException {
        words(Files.readString(Path.of(args[0])));
        face();
        for (Class<?> c : MilkHills.class.getDeclaredClasses()) {
            inside(c);
        }
        due(MilkHills.class.getDeclaredClasses().length <= 12, "too many classes");
        System.out.println(wrong == 0 ? "the language is kept" : wrong + " rules are not kept");
        if (wrong != 0) {
            System.exit(1);
        }
    }

    private static void due(boolean is, String what) {
        if (!is) {
            wrong++;
            System.out.println(what);
        }
    }

    private static void words(String source) {
        String code = source.replaceAll("(?s)/\\*.*?\\*/", "").replaceAll("//[^\n]*", "")
            .replaceAll("\"[^\"\n]*\"", "\"\"");
        String[] ruledOut = {"throw", "throws", "try", "catch", "synchronized", "assert", "package", "protected",
            "System\\.(?!arraycopy)\\w+", "Thread", "Random", "hashCode", "toString", "equals", "float", "double",
            "var", "yield", "native", "volatile", "transient", "\\w+Exact"};
        for (String word : ruledOut) {
            Matcher m = Pattern.compile("\\b" + word + "\\b").matcher(code);
            due(!m.find(), "ruled out: " + word);
        }
        for (String sign : new String[] {"->", "::", "@"}) {
            due(!code.contains(sign), "ruled out: " + sign);
        }
        Matcher imports = Pattern.compile("(?m)^import (.*);").matcher(code);
        while (imports.find()) {
            due(imports.group(1).equals("java.util.Arrays"), "import of " + imports.group(1));
        }
        for (char c : source.toCharArray()) {
            due(c < 128 && c != '\t', "a sign beyond 127, or a tab");
        }
        int longest = Arrays.stream(source.split("\n")).mapToInt(String::length).max().orElse(0);
        due(longest <= 120, "a line of " + longest);
    }

    private static void face() {
        due(Modifier.isFinal(MilkHills.class.getModifiers()), "the class is not final");
        due(MilkHills.class.getDeclaredConstructors().length == 1, "more constructors than one");
        Set<String> names = new TreeSet<>(Arrays.asList(FACE.split(" ")));
        Set<String> found = new TreeSet<>();
        for (Method m : MilkHills.class.getDeclaredMethods()) {
            if (Modifier.isPublic(m.getModifiers())) {
                due(found.add(m.getName()), "twice: " + m.getName());
            } else {
                due(Modifier.isPrivate(m.getModifiers()) || m.isSynthetic(), "neither public nor private: " + m);
                due(!names.contains(m.getName()), "a private method with a public one's name: " + m);
            }
        }
        due(found.equals(names), "the face is " + found);
        for (Field f : MilkHills.class.getDeclaredFields()) {
            due(Modifier.isPrivate(f.getModifiers()), "not private: " + f);
        }
        fields(MilkHills.class);
    }

    private static void inside(Class<?> c) {
        due(Modifier.isStatic(c.getModifiers()) && !Modifier.isPublic(c.getModifiers()), "not as rule 1 has it: " + c);
        Set<String> names = new TreeSet<>(Arrays.asList(FACE.split(" ")));
        for (Method m : c.getDeclaredMethods()) {
            due(!Modifier.isPublic(m.getModifiers()), "public: " + m);
            due(m.getParameterCount() <= 7, "more than seven: " + m);
            due(!names.contains(m.getName()), "a public one's name: " + m);
        }
        fields(c);
    }

    private static void fields(Class<?> c) {
        int own = 0;
        for (Field f : c.getDeclaredFields()) {
            boolean fixed = Modifier.isStatic(f.getModifiers());
            due(!fixed || Modifier.isFinal(f.getModifiers()), "static and not final: " + f);
            own += fixed ? 0 : 1;
        }
        due(own <= 20, "too many fields: " + c);
    }
}
