import java.io.File;
import java.io.IOException;
import java.lang.reflect.Method;
import java.lang.reflect.Modifier;
import java.net.URL;
import java.net.URLClassLoader;
import java.nio.file.Files;
import java.nio.file.Path;
import java.util.ArrayList;
import java.util.List;
import java.util.regex.Matcher;
import java.util.regex.Pattern;
import javax.tools.ToolProvider;

/** The code of README.md compiles, and every call there answers what the comment behind it says. */
public final class ReadmeTest {
    private static final Pattern ANSWERED = Pattern.compile("(engines\\..*\\));\\s+// (-?\\d+|true|false)\\b.*");
    private static final Pattern THROWING = Pattern.compile("(engines\\..*\\));\\s+// throws (\\w+)");
    private static final String NAME = "ReadmeCode";

    private static final StringBuilder MEMBERS = new StringBuilder();
    private static final StringBuilder STATEMENTS = new StringBuilder();

    public static void main(String[] args) throws ReflectiveOperationException, IOException {
        List<String> lines = Files.readAllLines(Path.of("README.md"));
        everyMethodIsTold(String.join("\n", lines));
        sortCode(lines);
        Path folder = Files.createTempDirectory("readme");
        folder.toFile().deleteOnExit();
        boolean compiled = compile(folder);
        Checks.due("the code of README.md compiles", compiled, true);
        Checks.finish("ReadmeTest");
        if (compiled) {
            run(folder);
        }
    }

    private static boolean compile(Path folder) throws IOException {
        Path source = folder.resolve(NAME + ".java");
        Files.writeString(source, "public final class " + NAME + " {\n" + MEMBERS
                + "public static void main(String[] args) {\n" + STATEMENTS
                + "Checks.due(\"the code has answers\", Checks.checked() > 40, true);\n"
                + "Checks.finish(\"README.md\");\n}\n}\n");
        source.toFile().deleteOnExit();
        folder.resolve(NAME + ".class").toFile().deleteOnExit();
        return ToolProvider.getSystemJavaCompiler().run(null, null, null, "-encoding", "UTF-8",
                "-cp", System.getProperty("java.class.path"), "-d", folder.toString(), source.toString()) == 0;
    }

    /** One loader for all classes, since the code uses Checks, which is visible in its own package alone. */
    private static void run(Path folder) throws ReflectiveOperationException, IOException {
        List<URL> places = new ArrayList<>();
        places.add(folder.toUri().toURL());
        for (String place : System.getProperty("java.class.path").split(File.pathSeparator)) {
            places.add(new File(place).toURI().toURL());
        }
        ClassLoader library = ClassLoader.getPlatformClassLoader();
        try (URLClassLoader loader = new URLClassLoader(places.toArray(new URL[0]), library)) {
            loader.loadClass(NAME).getMethod("main", String[].class).invoke(null, (Object) new String[0]);
        }
    }

    private static void everyMethodIsTold(String readme) {
        for (Method method : PinEngines.class.getDeclaredMethods()) {
            if (Modifier.isPublic(method.getModifiers())) {
                boolean told = Pattern.compile("\\b" + method.getName() + "\\b").matcher(readme).find();
                Checks.due("README.md tells of " + method.getName(), told, true);
            }
        }
    }

    /** Code that begins with 'static' is a member of the class; the other code is run from top to bottom. */
    private static void sortCode(List<String> lines) {
        boolean inCode = false;
        StringBuilder code = STATEMENTS;
        for (String line : lines) {
            if (line.startsWith("```")) {
                inCode = line.equals("```java");
                code = STATEMENTS;
            } else if (inCode) {
                code = line.startsWith("static ") ? MEMBERS : code;
                code.append(checked(line)).append('\n');
            }
        }
    }

    private static String checked(String line) {
        Matcher answered = ANSWERED.matcher(line);
        if (answered.matches()) {
            return "Checks.due(" + quoted(line) + ", \"\" + " + answered.group(1) + ", \"" + answered.group(2) + "\");";
        }
        Matcher throwing = THROWING.matcher(line);
        if (throwing.matches()) {
            String check = throwing.group(2).equals("NoSuchElementException") ? "noSuchElement" : "illegalArgument";
            return "Checks." + check + "(" + quoted(line) + ", () -> " + throwing.group(1) + ");";
        }
        return line;
    }

    private static String quoted(String line) {
        return "\"" + line.replace("\\", "\\\\").replace("\"", "\\\"") + "\"";
    }
}
