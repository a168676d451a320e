import java.io.IOException;
import java.lang.reflect.Field;
import java.lang.reflect.Method;
import java.lang.reflect.Modifier;
import java.nio.charset.StandardCharsets;
import java.nio.file.Files;
import java.nio.file.Path;
import java.util.Set;
import java.util.TreeSet;

/** The rules of ../shared/LANGUAGE.md that can be seen without understanding the program. */
public final class LanguageTest {
    private static final Check CHECK = new Check();
    private static final int LINES_OF_METHOD = 60;
    private static final int CALLS_DEEP = 8;
    private static final String[] NO_WORDS = {"throw", "throws", "try", "catch", "finally", "synchronized", "assert",
        "protected", "native", "volatile", "transient", "package", "System.out", "System.in", "Thread", "Random",
        "Object", "hashCode", "toString", "Exact", "var", "yield"};
    private static final String[] NO_SIGNS = {"->", "::", "@", "\t", "static {"};

    private static String withoutComments(String source) {
        return source.replaceAll("(?s)/\\*.*?\\*/", "").replaceAll("//[^\n]*", "");
    }

    private static String source() throws IOException {
        byte[] bytes = Files.readAllBytes(Path.of("src/main/java/WhoCommands.java"));
        for (byte b : bytes) {
            if (b < 0) {
                CHECK.due("a byte above 127 in the program", b, 0);
            }
        }
        String code = withoutComments(new String(bytes, StandardCharsets.US_ASCII));
        for (String word : NO_WORDS) {
            CHECK.due("the program has the word " + word,
                    code.matches("(?s).*(?<![A-Za-z0-9_])" + word.replace(".", "\\.") + "(?![A-Za-z0-9_]).*"), false);
        }
        for (String sign : NO_SIGNS) {
            CHECK.due("the program has the sign " + sign, code.contains(sign), false);
        }
        for (String line : code.split("\n")) {
            if (line.startsWith("import ")) {
                CHECK.due("the program has " + line, line.equals("import java.util.Arrays;"), true);
            }
        }
        return code;
    }

    private static Set<String> namesOfFace() {
        return new TreeSet<>(Set.of(("body person step near paper list falls feed end law rules may commands ahead"
                + " message sight knows thinks wrong order seat force bound cross answers gaps doubt brief fights"
                + " allied mended judge hangs mark back count").split(" ")));
    }

    private static void face() {
        for (Method method : WhoCommands.class.getDeclaredMethods()) {
            boolean isPublic = Modifier.isPublic(method.getModifiers());
            CHECK.due(method + " is public or private", isPublic || Modifier.isPrivate(method.getModifiers()), true);
            CHECK.due(method + " bears a public name", namesOfFace().contains(method.getName()), isPublic);
            CHECK.due(method + " takes too much", method.getParameterCount() <= 7, true);
        }
        for (Field field : WhoCommands.class.getDeclaredFields()) {
            boolean isNone = field.getName().equals("NONE");
            CHECK.due(field + " is private", Modifier.isPrivate(field.getModifiers()), !isNone);
            CHECK.due(field + " is static and not final",
                    Modifier.isStatic(field.getModifiers()) && !Modifier.isFinal(field.getModifiers()), false);
        }
    }

    private static void methods(String code) {
        SourceMethods methods = new SourceMethods(code);
        for (String name : methods.names()) {
            CHECK.due(name + " is short", methods.lines(name) <= LINES_OF_METHOD, true);
        }
        for (String name : namesOfFace()) {
            CHECK.due(name + " is a method of the source", methods.lines(name) > 0, true);
            CHECK.due(methods.deepest(name) + " is not too deep", methods.deepest(name).size() <= CALLS_DEEP, true);
        }
        CHECK.due("the methods called one by the other from bound on: " + methods.deepest("bound"),
                methods.deepest("bound").size() > 3, true);
    }

    private static void classesInside() {
        Class<?>[] inside = WhoCommands.class.getDeclaredClasses();
        CHECK.due("twelve classes at most", inside.length < 12, true);
        for (Class<?> each : inside) {
            CHECK.due(each + " is static", Modifier.isStatic(each.getModifiers()), true);
            CHECK.due(each + " is private", Modifier.isPrivate(each.getModifiers()), true);
            int fields = 0;
            for (Field field : each.getDeclaredFields()) {
                fields += Modifier.isStatic(field.getModifiers()) ? 0 : 1;
                CHECK.due(field + " is static and not final",
                        Modifier.isStatic(field.getModifiers()) && !Modifier.isFinal(field.getModifiers()), false);
            }
            CHECK.due(each + " has twenty fields at most", fields <= 20, true);
            for (Method method : each.getDeclaredMethods()) {
                CHECK.due(method + " bears a public name", namesOfFace().contains(method.getName()), false);
                CHECK.due(method + " takes too much", method.getParameterCount() <= 7, true);
            }
        }
    }

    public static void main(String[] args) throws IOException {
        methods(source());
        face();
        classesInside();
        CHECK.end("LanguageTest");
    }
}
