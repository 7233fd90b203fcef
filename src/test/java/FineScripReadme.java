import java.io.IOException;
import java.io.StringWriter;
import java.lang.reflect.InvocationTargetException;
import java.lang.reflect.Method;
import java.lang.reflect.Modifier;
import java.net.URL;
import java.net.URLClassLoader;
import java.nio.file.Files;
import java.nio.file.Path;
import java.util.ArrayList;
import java.util.Comparator;
import java.util.List;
import java.util.regex.Matcher;
import java.util.regex.Pattern;
import java.util.stream.Stream;
import javax.tools.JavaCompiler;
import javax.tools.ToolProvider;

/**
 * README.md shows a Java program with answers behind its calls. The program is compiled and run, so
 * that what the page shows is what the class answers; the files that the page names are looked for.
 */
public final class FineScripReadme {
    private static final Pattern PROGRAM = Pattern.compile("(?s)```java\n(.*?)```");
    private static final Pattern SHOWN = Pattern.compile("((?:\\w+ )?(\\w+) = )?(camp\\.\\w+\\([^;]*\\)); +// ([^:]+)(?:: .*)?");
    // A call that the page shows by itself; those in a loop stand further in.
    private static final Pattern CALL = Pattern.compile("([\\w ]+ = )?camp\\..*");
    private static final String THROWS = "throws ";

    private static int wrong = 0;

    private static void fault(String what) {
        wrong++;
        System.out.println(what);
    }

    /** The program of the page tells its answers by this; it is public as another class loader asks. */
    public static void due(String line, String want, String got) {
        if (!want.equals(got)) {
            fault("README.md: " + line + " answered " + got);
        }
    }

    private static String quoted(String text) {
        return '"' + text.replace("\\", "\\\\").replace("\"", "\\\"") + '"';
    }

    /** The line with a look at its answer, if it shows one. */
    private static String checked(String line) {
        Matcher shown = SHOWN.matcher(line);
        if (!shown.matches()) {
            if (CALL.matcher(line).matches()) {
                fault("README.md: " + line + " shows no answer");
            }
            return line;
        }
        String call = shown.group(3);
        String want = shown.group(4).trim();
        String due = "FineScripReadme.due(" + quoted(line) + ", " + quoted(want) + ", ";
        if (want.startsWith(THROWS)) {
            return "try { " + call + "; " + due + "\"nothing thrown\"); } catch (RuntimeException e) { "
                + due + "\"" + THROWS + "\" + e.getClass().getSimpleName()); }";
        }
        if (shown.group(1) == null) {
            return due + "String.valueOf(" + call + "));";
        }
        return shown.group(1) + call + "; " + due + "String.valueOf(" + shown.group(2) + "));";
    }

    private static String program(String shown) {
        StringBuilder text = new StringBuilder("public final class Shown {\n    public static void run() {\n");
        for (String line : shown.split("\n")) {
            text.append(checked(line)).append('\n');
        }
        return text.append("    }\n}\n").toString();
    }

    private static void run(String program, Path place) throws IOException, ReflectiveOperationException {
        Path source = place.resolve("Shown.java");
        Files.writeString(source, program);
        JavaCompiler compiler = ToolProvider.getSystemJavaCompiler();
        StringWriter faults = new StringWriter();
        List<String> options = List.of("-cp", System.getProperty("java.class.path"), "-d", place.toString());
        boolean compiled = compiler.getTask(faults, null, null, options, null,
            compiler.getStandardFileManager(null, null, null).getJavaFileObjects(source)).call();
        if (!compiled) {
            fault("README.md: the program does not compile: " + faults);
            return;
        }
        try (URLClassLoader loader = new URLClassLoader(new URL[] {place.toUri().toURL()})) {
            loader.loadClass("Shown").getMethod("run").invoke(null);
        } catch (InvocationTargetException e) {
            fault("README.md: the program ended with " + e.getCause());
        }
    }

    private static void checkCalls(String shown) {
        for (Method method : FineScrip.class.getDeclaredMethods()) {
            if (Modifier.isPublic(method.getModifiers()) && !shown.contains("camp." + method.getName() + "(")) {
                fault("README.md does not show " + method.getName() + "()");
            }
        }
    }

    /** The tests that the page names, and no others, lie under src/test/java. */
    private static void checkTests(String page) throws IOException {
        List<String> there = new ArrayList<>();
        try (Stream<Path> files = Files.list(Path.of("src/test/java"))) {
            files.forEach(file -> there.add(file.getFileName().toString().replace(".java", "")));
        }
        for (String name : there) {
            if (!page.contains("`" + name + "`")) {
                fault("README.md does not name the test " + name);
            }
        }
        Matcher file = Pattern.compile("(?:\\.\\./shared|src)/[\\w/]+\\.(?:java|md)|\\.ci/run").matcher(page);
        while (file.find()) {
            if (!Files.exists(Path.of(file.group()))) {
                fault("README.md names " + file.group() + ", which is not there");
            }
        }
    }

    private static void remove(Path place) throws IOException {
        try (Stream<Path> files = Files.walk(place)) {
            for (Path file : files.sorted(Comparator.reverseOrder()).toList()) {
                Files.delete(file);
            }
        }
    }

    public static void main(String[] args) throws IOException, ReflectiveOperationException {
        String page = Files.readString(Path.of("README.md"));
        Matcher found = PROGRAM.matcher(page);
        if (found.find()) {
            checkCalls(found.group(1));
            Path place = Files.createTempDirectory("readme");
            try {
                run(program(found.group(1)), place);
            } finally {
                remove(place);
            }
        } else {
            fault("README.md shows no program");
        }
        checkTests(page);
        System.out.println(wrong == 0 ? "the page is as the class answers" : wrong + " faults of README.md");
        if (wrong != 0) {
            System.exit(1);
        }
    }
}
