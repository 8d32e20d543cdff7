import java.io.File;
import java.io.IOException;
import java.net.URL;
import java.net.URLClassLoader;
import java.nio.file.Files;
import java.nio.file.Path;
import java.util.ArrayList;
import java.util.List;
import java.util.regex.Matcher;
import java.util.regex.Pattern;
import javax.tools.ToolProvider;

/** Makes the calls that README.md shows, as one program, and compares their answers with those that it tells. */
public final class ReadmeTest {
    /** A call, perhaps with a variable that keeps its answer, and the answer behind it, perhaps with words. */
    private static final Pattern TOLD =
            Pattern.compile("((?:int (\\w+) = )?(.+));\\s*// (true|false|[-0-9.]+|throws (\\w+))(?::.*)?");

    public static void main(String[] args) throws IOException, ReflectiveOperationException {
        StringBuilder program = new StringBuilder("public final class Shown {\n");
        program.append("public static void main(String[] args) {\nCheck check = new Check();\n");
        for (String line : shown()) {
            program.append(checked(line)).append('\n');
        }
        run(program.append("check.end(\"ReadmeTest\"); } }").toString());
    }

    /** The lines of README.md that are Java. */
    private static List<String> shown() throws IOException {
        List<String> result = new ArrayList<>();
        boolean isJava = false;
        for (String line : Files.readAllLines(Path.of("README.md"))) {
            if (line.startsWith("```")) {
                isJava = line.equals("```java");
            } else if (isJava) {
                result.add(line);
            }
        }
        return result;
    }

    private static String checked(String line) {
        Matcher told = TOLD.matcher(line);
        if (!told.matches()) {
            // A line that tells an answer in another form would go unlooked at.
            return line.contains("//") ? "check.due(\"the form of a line in README.md\", false, true);" : line;
        }
        String what = "\"" + told.group(1).replace("\"", "'") + "\"";
        if (told.group(5) != null) {
            String due = "\"throws java.lang." + told.group(5) + "\"";
            return "check.due(" + what + ", Check.outcome(() -> " + told.group(3) + "), " + due + ");";
        }
        String kept = told.group(2);
        return kept == null ? "check.due(" + what + ", " + told.group(3) + ", " + told.group(4) + ");"
                : told.group(1) + "; check.due(" + what + ", " + kept + ", " + told.group(4) + ");";
    }

    private static void run(String program) throws IOException, ReflectiveOperationException {
        Path folder = Files.createTempDirectory("readme");
        for (String name : List.of("", "Shown.java", "Shown.class")) {
            folder.resolve(name).toFile().deleteOnExit();
        }
        Path source = Files.writeString(folder.resolve("Shown.java"), program);
        String path = System.getProperty("java.class.path");
        int code = ToolProvider.getSystemJavaCompiler().run(null, null, null,
                "-cp", path, "-d", folder.toString(), source.toString());
        if (code != 0) {
            System.out.println("what README.md shows does not compile");
            System.exit(1);
        }
        List<URL> places = new ArrayList<>();
        places.add(folder.toUri().toURL());
        for (String place : path.split(File.pathSeparator)) {
            places.add(Path.of(place).toUri().toURL());
        }
        // One loader for all classes: those of the tests are not public.
        URLClassLoader loader = new URLClassLoader(places.toArray(new URL[0]), ClassLoader.getPlatformClassLoader());
        loader.loadClass("Shown").getMethod("main", String[].class).invoke(null, (Object) new String[0]);
    }
}
