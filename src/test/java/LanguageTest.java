import java.io.IOException;
import java.lang.reflect.Constructor;
import java.lang.reflect.Field;
import java.lang.reflect.Method;
import java.lang.reflect.Modifier;
import java.nio.file.Files;
import java.nio.file.Path;
import java.util.Arrays;
import java.util.List;
import java.util.Set;
import java.util.TreeSet;
import java.util.regex.Matcher;
import java.util.regex.Pattern;
import java.util.stream.Collectors;

/** The face, and what of ../shared/LANGUAGE.md can be seen without a compiler of its own. */
public final class LanguageTest {
    private static final Path SOURCE = Path.of("src/main/java/PackedGraph.java");
    private static final String FACE = "about add clear count end extension fault feed find group integer nil number"
        + " pack part put real row same shown skip time truth unpack";
    private static final List<String> NOT_THERE = List.of("->", "::", "\\bfinally\\b", "\\bsynchronized\\b",
        "\\bassert\\b", "\\bHashMap\\b", "\\bHashSet\\b", "\\bstream\\b", "\\bgetMessage\\b", "\\bSystem\\.(?!arraycopy)",
        "\\w+Exact\\b", "\\bObject\\b", "\\bThread\\b", "\\bRandom\\b", "\\bstatic\\s*\\{", "\\bpackage\\b",
        "\\bprotected\\b", "\\bvolatile\\b", "\\btransient\\b", "\\bnative\\b", "@", "\\bthis\\s*[,)]",
        "\\bextends\\s+\\w*Exception");
    private static final List<String> LIBRARY = List.of("java.util.ArrayList", "java.util.Arrays");

    public static void main(String[] args) throws IOException {
        members();
        exceptions();
        source();
        Check.close("LanguageTest");
    }

    private static void members() {
        Class<?> face = PackedGraph.class;
        Check.equal("public and final", face.getModifiers(), Modifier.PUBLIC | Modifier.FINAL);
        Set<String> open = new TreeSet<>();
        Set<String> hidden = new TreeSet<>();
        for (Method method : face.getDeclaredMethods()) {
            boolean isPublic = Modifier.isPublic(method.getModifiers());
            Check.equal(method.getName() + " is public or private",
                isPublic || Modifier.isPrivate(method.getModifiers()), true);
            (isPublic ? open : hidden).add(method.getName());
        }
        Check.equal("public methods", String.join(" ", open), FACE);
        hidden.retainAll(open);
        Check.equal("private methods with public names", hidden.size(), 0);
        for (Field field : face.getDeclaredFields()) {
            int due = field.getName().equals("NONE") ? Modifier.PUBLIC : Modifier.PRIVATE;
            Check.equal(field.getName(), field.getModifiers() & (Modifier.PUBLIC | Modifier.PRIVATE), due);
        }
        Constructor<?>[] constructors = face.getDeclaredConstructors();
        Check.equal("constructors", constructors.length, 1);
        for (Class<?> inside : face.getDeclaredClasses()) {
            Check.equal(inside + " is static", Modifier.isStatic(inside.getModifiers()), true);
        }
        Check.equal("classes", face.getDeclaredClasses().length <= 12, true);
    }

    private static void exceptions() {
        exceptions("feed", "UnsupportedOperationException");
        exceptions("end", "IllegalArgumentException");
        exceptions("unpack", "");
        exceptions("clear", "");
        exceptions("pack", "IndexOutOfBoundsException UnsupportedOperationException");
        exceptions("add", "IndexOutOfBoundsException IllegalArgumentException UnsupportedOperationException");
        exceptions("number", "IndexOutOfBoundsException IllegalArgumentException ArithmeticException");
    }

    private static void exceptions(String name, String due) {
        for (Method method : PackedGraph.class.getDeclaredMethods()) {
            if (method.getName().equals(name)) {
                String got = Arrays.stream(method.getExceptionTypes()).map(Class::getSimpleName)
                    .collect(Collectors.joining(" "));
                Check.equal("exceptions of " + name, got, due);
            }
        }
    }

    private static void source() throws IOException {
        String text = Files.readString(SOURCE);
        Check.equal("ASCII", text.chars().allMatch(c -> c < 128), true);
        String code = text.replaceAll("(?s)/\\*.*?\\*/", "").replaceAll("//[^\n]*", "").replaceAll("\"[^\"]*\"", "\"\"");
        for (String pattern : NOT_THERE) {
            Check.equal("found of " + pattern, Pattern.compile(pattern).matcher(code).find(), false);
        }
        Matcher imports = Pattern.compile("import ([\\w.]+);").matcher(code);
        while (imports.find()) {
            Check.equal("import of " + imports.group(1), LIBRARY.contains(imports.group(1)), true);
        }
        int length = 0;
        String method = "";
        for (String line : text.split("\n")) {
            boolean isHead = line.matches(" {4,8}[\\w<>\\[\\] ]+\\(.*\\{");
            method = isHead ? line.trim() : method;
            length = isHead ? 0 : length + 1;
            if (line.matches(" {4,8}\\}")) {
                Check.equal("sixty lines: " + method, length <= 60, true);
                length = -100000;
            }
        }
    }
}
