import java.io.ByteArrayOutputStream;
import java.io.IOException;
import java.io.PrintStream;
import java.net.URL;
import java.net.URLClassLoader;
import java.nio.charset.StandardCharsets;
import java.nio.file.Files;
import java.nio.file.Path;
import javax.tools.ToolProvider;

/** What README.md says of the use of the class is so: its program is run, its templates are rendered. */
public final class ReadmeTest {
    private static final String PRINTS = "// prints ";
    private static final String GIVES = "->";

    public static void main(String[] args) throws IOException, ReflectiveOperationException {
        String page = Files.readString(Path.of("README.md"), StandardCharsets.UTF_8);
        program(fenced(page, "java"));
        templates(fenced(page, "text"));
        calls(page);
        Bench.finish();
    }

    private static String fenced(String page, String language) {
        String opening = "```" + language + "\n";
        int begin = page.indexOf(opening) + opening.length();
        return page.substring(begin, page.indexOf("```", begin));
    }

    private static void program(String code) throws IOException, ReflectiveOperationException {
        Path place = Files.createTempDirectory("readme");
        Path file = place.resolve("Example.java");
        Files.writeString(file, "public final class Example { public static void main(String[] args) {\n" + code + "} }\n");
        int compiled = ToolProvider.getSystemJavaCompiler().run(null, null, null,
            "-cp", System.getProperty("java.class.path"), "-d", place.toString(), file.toString());
        Bench.due("the program's compiler", compiled, 0);
        if (compiled == 0) {
            int told = code.indexOf(PRINTS) + PRINTS.length();
            Bench.due("what the program prints", printed(place), code.substring(told).strip());
        }
        Files.deleteIfExists(place.resolve("Example.class"));
        Files.delete(file);
        Files.delete(place);
    }

    private static String printed(Path place) throws IOException, ReflectiveOperationException {
        PrintStream before = System.out;
        ByteArrayOutputStream bytes = new ByteArrayOutputStream();
        try (URLClassLoader loader = new URLClassLoader(new URL[] {place.toUri().toURL()})) {
            System.setOut(new PrintStream(bytes, true, StandardCharsets.UTF_8));
            loader.loadClass("Example").getMethod("main", String[].class).invoke(null, (Object) new String[0]);
        } finally {
            System.setOut(before);
        }
        return bytes.toString(StandardCharsets.UTF_8);
    }

    private static void templates(String rows) {
        String[] lines = rows.split("\n");
        Bench.due("there are templates", lines.length > 1, true);
        for (String row : lines) {
            int arrow = row.indexOf(GIVES);
            String template = row.substring(0, arrow).strip();
            Bench b = new Bench();
            int map = film(b);
            b.compile(1, "({{name}})");
            Bench.due(template, b.render(template, map), row.substring(arrow + GIVES.length()).strip());
        }
    }

    /** The DATA that README.md tells above its templates. */
    private static int film(Bench b) {
        int map = b.engine().map();
        b.put(map, "title", b.text("Tom & Jo"));
        b.put(map, "n", b.engine().number(3));
        b.put(map, "cast", b.list(named(b, "tom"), named(b, "jo")));
        return map;
    }

    private static int named(Bench b, String name) {
        int map = b.engine().map();
        b.put(map, "name", b.text(name));
        return map;
    }

    private static void calls(String page) {
        for (String call : FaceTest.FACE) {
            String name = call.substring(0, call.indexOf('('));
            Bench.due("README.md tells of " + name, page.contains("`" + name + "("), true);
        }
    }
}
