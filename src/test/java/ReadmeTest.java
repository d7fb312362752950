import java.io.IOException;
import java.net.URL;
import java.net.URLClassLoader;
import java.nio.file.Files;
import java.nio.file.Path;
import java.util.ArrayList;
import java.util.List;
import java.util.function.Supplier;
import java.util.regex.Matcher;
import java.util.regex.Pattern;
import javax.tools.ToolProvider;

/** Compiles the Java that README.md shows, makes its calls in their row, and looks whether it tells their answers. */
public final class ReadmeTest {
    private static final Pattern BLOCK = Pattern.compile("(?s)```java\n(.*?)```");
    /** A call, over one line or more, and its answer, up to a colon or the end of the line. */
    private static final Pattern CALL = Pattern.compile("(?s)(x\\..*?\\));\\s*// ([^:\n]+)");

    private final StringBuilder members = new StringBuilder();
    private final StringBuilder calls = new StringBuilder();
    private final List<String> names = new ArrayList<>();
    private final List<String> answers = new ArrayList<>();

    public static void main(String[] args) throws Exception {
        ReadmeTest test = new ReadmeTest();
        test.read(Files.readString(Path.of("README.md")));
        int wrong = test.compare(test.made());
        System.out.println("ReadmeTest: " + (wrong == 0 ? "all as due" : wrong + " wrong"));
        if (wrong != 0) {
            System.exit(1);
        }
    }

    private void read(String text) {
        Matcher block = BLOCK.matcher(text);
        while (block.find()) {
            if (block.group(1).contains("static int feed(")) {
                members.append(block.group(1));
            } else {
                readCalls(block.group(1));
            }
        }
    }

    private void readCalls(String block) {
        Matcher call = CALL.matcher(block);
        while (call.find()) {
            names.add(call.group(1).replaceAll("\\s+", " "));
            answers.add(call.group(2).strip());
            calls.append("calls.add(() -> ").append(call.group(1)).append(");\n");
        }
    }

    @SuppressWarnings("unchecked")
    private List<Supplier<Object>> made() throws IOException, ReflectiveOperationException {
        Path place = Files.createTempDirectory("readme");
        Path file = place.resolve("ReadmeExample.java");
        Files.writeString(file, "public class ReadmeExample {\n" + members
                + "public static java.util.List<java.util.function.Supplier<Object>> calls() {\n"
                + "java.util.List<java.util.function.Supplier<Object>> calls = new java.util.ArrayList<>();\n"
                + "SummerPictures x = new SummerPictures();\n" + calls + "return calls;\n}\n}\n");
        String path = System.getProperty("java.class.path");
        int failed = ToolProvider.getSystemJavaCompiler().run(null, null, null, "-proc:none", "-cp", path, "-d",
                place.toString(), file.toString());
        if (failed != 0) {
            throw new IllegalStateException("README.md's Java does not compile");
        }
        try (URLClassLoader loader = new URLClassLoader(new URL[] {place.toUri().toURL()})) {
            return (List<Supplier<Object>>) loader.loadClass("ReadmeExample").getMethod("calls").invoke(null);
        } finally {
            Files.delete(place.resolve("ReadmeExample.class"));
            Files.delete(file);
            Files.delete(place);
        }
    }

    private int compare(List<Supplier<Object>> made) {
        // Fewer would mean that the README is not written as it is looked for here.
        int wrong = made.size() < 25 ? 1 : 0;
        for (int i = 0; i < made.size(); i++) {
            String got;
            try {
                got = String.valueOf(made.get(i).get());
            } catch (RuntimeException e) {
                got = e.getClass().getSimpleName();
            }
            if (!got.equals(answers.get(i))) {
                wrong++;
                System.out.println(names.get(i) + " answers " + got + ", README.md says " + answers.get(i));
            }
        }
        return wrong;
    }
}
