import java.io.IOException;
import java.lang.reflect.Constructor;
import java.lang.reflect.Field;
import java.lang.reflect.Method;
import java.lang.reflect.Modifier;
import java.nio.file.Files;
import java.nio.file.Path;
import java.util.ArrayList;
import java.util.Arrays;
import java.util.List;
import java.util.Set;
import java.util.TreeSet;
import java.util.regex.Matcher;
import java.util.regex.Pattern;
import java.util.stream.Collectors;

/** The face, and what of ../shared/LANGUAGE.md can be seen without a compiler of its own. */
public final class LanguageTest {
    private static final Path SOURCE = Path.of("src/main/java/PackedGraph.java");
    private static final Path DOCUMENT = Path.of("../shared/DOC.md");
    private static final List<String> NOT_THERE = List.of("->", "::", "\\bfinally\\b", "\\bsynchronized\\b",
        "\\bassert\\b", "\\bHashMap\\b", "\\bHashSet\\b", "\\bstream\\b", "\\bgetMessage\\b", "\\bSystem\\.(?!arraycopy)",
        "\\w+Exact\\b", "\\bObject\\b", "\\bThread\\b", "\\bRandom\\b", "\\bstatic\\s*\\{", "\\bpackage\\b",
        "\\bprotected\\b", "\\bvolatile\\b", "\\btransient\\b", "\\bnative\\b", "@", "\\bthis\\s*[,)]",
        "\\bextends\\s+\\w*Exception");
    private static final List<String> LIBRARY = List.of("java.util.ArrayList", "java.util.Arrays");

    public static void main(String[] args) throws IOException {
        members();
        face();
        inside();
        source();
        Check.close("LanguageTest");
    }

    private static void members() {
        Class<?> face = PackedGraph.class;
        Check.equal("public and final", face.getModifiers(), Modifier.PUBLIC | Modifier.FINAL);
        Set<String> open = new TreeSet<>();
        Set<String> hidden = new TreeSet<>();
        for (Method method : face.getDeclaredMethods()) {
            boolean isPublic = Modifier.isPublic(method.getModifiers());
            Check.equal(method.getName() + " is public or private",
                isPublic || Modifier.isPrivate(method.getModifiers()), true);
            (isPublic ? open : hidden).add(method.getName());
        }
        hidden.retainAll(open);
        Check.equal("private methods with public names", hidden.size(), 0);
        for (Field field : face.getDeclaredFields()) {
            int due = field.getName().equals("NONE") ? Modifier.PUBLIC : Modifier.PRIVATE;
            Check.equal(field.getName(), field.getModifiers() & (Modifier.PUBLIC | Modifier.PRIVATE), due);
        }
        Constructor<?>[] constructors = face.getDeclaredConstructors();
        Check.equal("constructors", constructors.length, 1);
        Check.equal("public constructor", constructors[0].toString(), "public PackedGraph()");
        for (Class<?> inside : face.getDeclaredClasses()) {
            Check.equal(inside + " is static", Modifier.isStatic(inside.getModifiers()), true);
        }
        Check.equal("classes", face.getDeclaredClasses().length <= 12, true);
    }

    /** Every line of the document's face, with its parameters and exceptions. */
    private static void face() throws IOException {
        String block = Files.readString(DOCUMENT).split("```java\n|```")[1];
        List<String> due = new ArrayList<>();
        Matcher line = Pattern.compile("public (\\w+ \\w+)\\((.*?)\\)(?: throws (.*))?;").matcher(block);
        while (line.find()) {
            String types = line.group(2).replaceAll("(\\w+) \\w+", "$1");
            due.add(line.group(1) + "(" + types + ") " + (line.group(3) == null ? "" : line.group(3)));
        }
        List<String> got = new ArrayList<>();
        for (Method method : PackedGraph.class.getDeclaredMethods()) {
            if (Modifier.isPublic(method.getModifiers())) {
                got.add(method.getReturnType().getSimpleName() + " " + method.getName() + "("
                    + names(method.getParameterTypes()) + ") " + names(method.getExceptionTypes()));
            }
        }
        Check.equal("the document's face was found", due.size(), 24);
        due.sort(null);
        got.sort(null);
        for (int i = 0; i < Math.min(got.size(), due.size()); i++) {
            Check.equal("method " + i, got.get(i), due.get(i));
        }
        Check.equal("methods", got.size(), due.size());
    }

    /** Rules 5 and 11: no static state, few fields, few parameters. */
    private static void inside() {
        List<Class<?>> classes = new ArrayList<>(List.of(PackedGraph.class.getDeclaredClasses()));
        classes.add(PackedGraph.class);
        for (Class<?> each : classes) {
            int fields = 0;
            for (Field field : each.getDeclaredFields()) {
                boolean isStatic = Modifier.isStatic(field.getModifiers());
                fields += isStatic ? 0 : 1;
                Check.equal("static and not final: " + field, isStatic && !Modifier.isFinal(field.getModifiers()), false);
            }
            Check.equal("twenty fields of " + each, fields <= 20, true);
            for (Method method : each.getDeclaredMethods()) {
                Check.equal("seven parameters of " + method, method.getParameterCount() <= 7, true);
            }
        }
    }

    private static String names(Class<?>[] classes) {
        return Arrays.stream(classes).map(Class::getSimpleName).collect(Collectors.joining(", "));
    }

    private static void source() throws IOException {
        String text = Files.readString(SOURCE);
        Check.equal("ASCII", text.chars().allMatch(c -> c < 128), true);
        String code = text.replaceAll("(?s)/\\*.*?\\*/", "").replaceAll("//[^\n]*", "").replaceAll("\"[^\"]*\"", "\"\"");
        for (String pattern : NOT_THERE) {
            Check.equal("found of " + pattern, Pattern.compile(pattern).matcher(code).find(), false);
        }
        Matcher imports = Pattern.compile("import ([\\w.]+);").matcher(code);
        while (imports.find()) {
            Check.equal("import of " + imports.group(1), LIBRARY.contains(imports.group(1)), true);
        }
        int length = 0;
        String method = "";
        for (String line : text.split("\n")) {
            boolean isHead = line.matches(" {4,8}[\\w<>\\[\\] ]+\\(.*\\{");
            method = isHead ? line.trim() : method;
            length = isHead ? 0 : length + 1;
            if (line.matches(" {4,8}\\}")) {
                Check.equal("sixty lines: " + method, length <= 60, true);
                length = -100000;
            }
        }
    }
}
