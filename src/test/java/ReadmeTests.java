import java.io.ByteArrayOutputStream;
import java.io.File;
import java.io.IOException;
import java.io.PrintStream;
import java.net.URL;
import java.net.URLClassLoader;
import java.nio.charset.StandardCharsets;
import java.nio.file.Files;
import java.nio.file.Path;
import java.util.Comparator;
import java.util.List;
import java.util.regex.Matcher;
import java.util.regex.Pattern;
import java.util.stream.Collectors;
import java.util.stream.Stream;
import javax.tools.ToolProvider;

/** README.md names each call with its arguments and its ERRORS, and its program prints what it says. */
public final class ReadmeTests {
    private static final List<String> ERRORS = List.of("BEYOND", "NONE", "STATE", "FULL", "KIND");
    private static int wrong;

    private ReadmeTests() {
    }

    public static void main(String[] args) throws IOException, ReflectiveOperationException {
        String page = Files.readString(Path.of(args[0]));
        calls(page, Files.readString(Path.of(args[1])));
        errors(page, Files.readString(Path.of(args[2])));
        program(page);
        System.out.println(wrong == 0 ? "the page holds" : wrong + " words of the page don't hold");
        if (wrong != 0) {
            System.exit(1);
        }
    }

    private static void due(boolean is, String what) {
        if (!is) {
            wrong++;
            System.out.println(what);
        }
    }

    /** The line of the tables that is about a call; an empty one, if there is none or more than one. */
    private static String lineOf(String page, String call) {
        List<String> lines = page.lines().filter(l -> l.startsWith("| `" + call)).collect(Collectors.toList());
        return lines.size() == 1 ? lines.get(0) : "";
    }

    private static void calls(String page, String source) {
        Matcher face = Pattern.compile("(?m)^    public (?:int|long) (\\w+)\\(([^)]*)\\)").matcher(source);
        int calls = 0;
        while (face.find()) {
            String call = face.group(1) + "(" + face.group(2).replaceAll("(?:int|long) (\\w+)", "$1") + ")";
            due(!lineOf(page, call + "` |").isEmpty(), "not told, or told twice: " + call);
            calls++;
        }
        due(calls == 39, calls + " calls in the face");
    }

    /** Of each promise the ERRORS, in their order, are those in the line about its call. */
    private static void errors(String page, String document) {
        Matcher promise = Pattern.compile("(?m)^`(?:int|long) (\\w+)\\([^)]*\\)`: (.*)$").matcher(document);
        int promises = 0;
        while (promise.find()) {
            String told = errorsOf(lineOf(page, promise.group(1) + "("));
            String due = errorsOf(promise.group(2).replaceAll("\\([^()]*\\)|(?:STATE|KIND) it was|KIND that it was", ""));
            due(told.equals(due), promise.group(1) + " tells" + told + ", due is" + due);
            promises++;
        }
        due(promises == 39, promises + " promises of calls");
    }

    private static String errorsOf(String words) {
        StringBuilder found = new StringBuilder();
        Matcher word = Pattern.compile("(?<=[.,;|] )(" + String.join("|", ERRORS) + ")(?=[.:, ]|$)").matcher(words);
        while (word.find()) {
            found.append(' ').append(word.group(1));
        }
        return found.toString();
    }

    private static String block(String page, String kind) {
        Matcher block = Pattern.compile("(?s)```" + kind + "\n(.*?)```").matcher(page);
        return block.find() ? block.group(1) : "";
    }

    private static void program(String page) throws IOException, ReflectiveOperationException {
        Path folder = Files.createTempDirectory("readme");
        try {
            Path source = Files.writeString(folder.resolve("Try.java"), block(page, "java"));
            int failed = ToolProvider.getSystemJavaCompiler().run(null, null, null, "-cp",
                System.getProperty("java.class.path"), "-d", folder.toString(), source.toString());
            due(failed == 0, "the program can't be compiled");
            if (failed == 0) {
                String printed = printed(folder);
                due(printed.equals(block(page, "text")), "the program prints\n" + printed);
            }
        } finally {
            try (Stream<Path> all = Files.walk(folder)) {
                all.sorted(Comparator.reverseOrder()).map(Path::toFile).forEach(File::delete);
            }
        }
    }

    private static String printed(Path folder) throws IOException, ReflectiveOperationException {
        PrintStream out = System.out;
        ByteArrayOutputStream bytes = new ByteArrayOutputStream();
        System.setOut(new PrintStream(bytes, true, StandardCharsets.UTF_8));
        try (URLClassLoader loader = new URLClassLoader(new URL[] {folder.toUri().toURL()})) {
            loader.loadClass("Try").getMethod("main", String[].class).invoke(null, (Object) new String[0]);
        } finally {
            System.setOut(out);
        }
        return bytes.toString(StandardCharsets.UTF_8).replace("\r\n", "\n");
    }
}
