import java.io.IOException;
import java.lang.reflect.Method;
import java.lang.reflect.Modifier;
import java.net.URL;
import java.net.URLClassLoader;
import java.nio.file.Files;
import java.nio.file.Path;
import java.util.Arrays;
import java.util.regex.Matcher;
import java.util.regex.Pattern;
import javax.tools.ToolProvider;

/** What README.md says: every call is named with its parameters, and the example does what its comments say. */
public final class ReadmeTest {
    private static final String DUE = "5 2 0 true";

    public static void main(String[] args) throws IOException {
        String page = Files.readString(Path.of("README.md"));
        calls(page);
        example(page);
        Check.close("ReadmeTest");
    }

    private static void calls(String page) {
        String tables = String.join("\n", Arrays.stream(page.split("\n")).filter(line -> line.startsWith("|")).toList());
        for (Method method : PackedGraph.class.getDeclaredMethods()) {
            if (Modifier.isPublic(method.getModifiers())) {
                Matcher call = Pattern.compile("`" + method.getName() + "\\(([^)`]*)\\)`").matcher(tables);
                String named = call.find() ? call.group(1) : "it is not named";
                int parameters = named.isEmpty() ? 0 : named.split(",").length;
                Check.equal("parameters of " + method.getName() + "()", parameters, method.getParameterCount());
                Check.equal("README.md names " + method.getName() + "()", named.contains("not named"), false);
            }
        }
    }

    private static void example(String page) throws IOException {
        Matcher block = Pattern.compile("(?s)```java\n(.*?)```").matcher(page);
        Check.equal("README.md has an example", block.find(), true);
        Path folder = Files.createTempDirectory("readme");
        Path file = folder.resolve("Example.java");
        Files.writeString(file, "public final class Example { public static String run() {\n" + block.group(1)
            + "return n + \" \" + read + \" \" + code + \" \" + (x.part(read, 1) == read); } }\n");
        String path = System.getProperty("java.class.path");
        int compiled = ToolProvider.getSystemJavaCompiler()
            .run(null, null, null, "-cp", path, "-d", folder.toString(), file.toString());
        Check.equal("the example compiles", compiled, 0);
        Check.equal("the example does what it says", answer(folder), DUE);
        for (String name : new String[] {"Example.class", "Example.java", ""}) {
            Files.deleteIfExists(folder.resolve(name));
        }
    }

    private static String answer(Path folder) throws IOException {
        try (URLClassLoader loader = new URLClassLoader(new URL[] {folder.toUri().toURL()})) {
            return String.valueOf(loader.loadClass("Example").getMethod("run").invoke(null));
        } catch (ReflectiveOperationException e) {
            return e.toString();
        }
    }
}
