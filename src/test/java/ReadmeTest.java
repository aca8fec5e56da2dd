import java.io.IOException;
import java.lang.reflect.Method;
import java.lang.reflect.Modifier;
import java.net.URL;
import java.net.URLClassLoader;
import java.nio.file.Files;
import java.nio.file.Path;
import java.util.List;
import java.util.Set;
import java.util.TreeSet;
import java.util.regex.Matcher;
import java.util.regex.Pattern;
import java.util.stream.Collectors;
import java.util.stream.Stream;
import javax.tools.ToolProvider;

/** README.md: the calls that it shows answer as it says, and what it says of the tests is what .ci/run finds. */
public final class ReadmeTest {
    private static final Due due = new Due();

    private static final Pattern BLOCK = Pattern.compile("```java\n(.*?)```", Pattern.DOTALL);
    /** A call, and behind // the answer up to a : or the end. */
    private static final Pattern CALL = Pattern.compile("(x\\.\\w+\\(.*\\)); +// ([^ :]+)(:.*)?");
    private static final Pattern NAME = Pattern.compile("`(\\w+Test)`");

    public static void main(String[] args) throws Exception {
        String page = Files.readString(Path.of("README.md"));
        callsAnswerAsItSays(page);
        allMethodsAreShown(page);
        allTestsAreNamed(page);
        theScriptStands(page);
        due.tell();
    }

    /** The page's calls as a class of their own: each answer, and what the page says that it is. */
    private static String program(String page) {
        StringBuilder helpers = new StringBuilder();
        StringBuilder calls = new StringBuilder();
        Matcher blocks = BLOCK.matcher(page);
        while (blocks.find()) {
            for (String line : blocks.group(1).contains("static ") ? new String[0] : blocks.group(1).split("\n")) {
                calls.append(shown(line)).append('\n');
            }
            helpers.append(blocks.group(1).contains("static ") ? blocks.group(1) : "");
        }
        return "public final class Shown {\n" + helpers
            + "public static java.util.List<String> answers() {\njava.util.List<String> all = new java.util.ArrayList<>();\n"
            + calls + "return all;\n}\n}\n";
    }

    private static String shown(String line) {
        Matcher call = CALL.matcher(line);
        if (!call.matches()) {
            due.is("nothing is said of " + line, line.contains("//"), false);
            return line;
        }
        return "all.add(\"" + call.group(1).replace("\"", "\\\"") + "\"); all.add(\"\" + " + call.group(1) + "); all.add(\""
            + call.group(2) + "\");";
    }

    private static void callsAnswerAsItSays(String page) throws Exception {
        due.promise("the calls that README.md shows answer as it says");
        Path folder = Files.createTempDirectory("readme");
        Path file = folder.resolve("Shown.java");
        Files.writeString(file, program(page));
        int status = ToolProvider.getSystemJavaCompiler().run(null, null, null, "-cp", System.getProperty("java.class.path"), "-d",
            folder.toString(), file.toString());
        due.is("they can be compiled", status, 0);
        if (status == 0) {
            try (URLClassLoader loader = new URLClassLoader(new URL[] {folder.toUri().toURL()})) {
                List<?> all = (List<?>) loader.loadClass("Shown").getMethod("answers").invoke(null);
                for (int i = 0; i + 2 < all.size(); i += 3) {
                    due.is("" + all.get(i), "" + all.get(i + 1), "" + all.get(i + 2));
                }
                due.is("many calls are shown", all.size() >= 3 * 40, true);
            }
        }
        try (Stream<Path> files = Files.list(folder)) {
            for (Path one : files.collect(Collectors.toList())) {
                Files.delete(one);
            }
        }
        Files.delete(folder);
    }

    private static void allMethodsAreShown(String page) {
        due.promise("README.md says how to use the class");
        for (Method method : IdleCrimes.class.getDeclaredMethods()) {
            if (Modifier.isPublic(method.getModifiers())) {
                due.is(method.getName() + " is shown", page.contains("x." + method.getName() + "("), true);
            }
        }
    }

    private static void allTestsAreNamed(String page) throws IOException {
        due.promise("README.md names the tests");
        Set<String> named = new TreeSet<>();
        Matcher names = NAME.matcher(page);
        while (names.find()) {
            named.add(names.group(1));
        }
        Set<String> there = new TreeSet<>();
        try (Stream<Path> files = Files.list(Path.of("src/test/java"))) {
            files.map(file -> file.getFileName().toString()).filter(name -> name.endsWith("Test.java"))
                .forEach(name -> there.add(name.substring(0, name.length() - 5)));
        }
        due.is("tests", named.toString(), there.toString());
    }

    private static void theScriptStands(String page) throws IOException {
        due.promise("README.md says how the tests are run");
        Path script = Path.of(".ci/run");
        String text = Files.readString(script);
        due.is("it is named", page.contains("`.ci/run`"), true);
        due.is("it can be run", Files.isExecutable(script), true);
        due.is("it compiles the program", text.contains("src/main/java/IdleCrimes.java"), true);
        due.is("it runs each test of the project", text.contains("src/test/java/*Test.java"), true);
        due.is("it runs each test that is shared", text.contains("/tests/*.java"), true);
    }
}
