import java.io.IOException;
import java.lang.reflect.Constructor;
import java.lang.reflect.Field;
import java.lang.reflect.Method;
import java.lang.reflect.Modifier;
import java.util.List;
import java.util.Set;
import java.util.TreeSet;

/** The public face: what the class shows is what the document shows, to the types of every parameter. */
public final class FaceTest {
    private FaceTest() {
    }

    /** A line of the document without the names of parameters, as reflection shows it. */
    private static String declaration(String line) {
        return line.replaceAll("(int|boolean) \\w+(?=[,)])", "$1").replaceAll(" ?[{;]$", "");
    }

    private static String declaration(Method method) {
        StringBuilder types = new StringBuilder();
        for (Class<?> type : method.getParameterTypes()) {
            types.append(types.length() == 0 ? "" : ", ").append(type);
        }
        return Modifier.toString(method.getModifiers()) + " " + method.getReturnType() + " " + method.getName()
                + "(" + types + ")";
    }

    private static Set<String> shown() throws IllegalAccessException {
        Set<String> shown = new TreeSet<>();
        shown.add(Modifier.toString(WhoCommands.class.getModifiers()) + " class WhoCommands");
        for (Constructor<?> constructor : WhoCommands.class.getDeclaredConstructors()) {
            shown.add(constructor.toString());
        }
        for (Method method : WhoCommands.class.getDeclaredMethods()) {
            if (!Modifier.isPrivate(method.getModifiers())) {
                shown.add(declaration(method));
            }
        }
        for (Field field : WhoCommands.class.getDeclaredFields()) {
            if (!Modifier.isPrivate(field.getModifiers())) {
                shown.add(Modifier.toString(field.getModifiers()) + " " + field.getType() + " " + field.getName()
                        + " = " + field.get(null));
            }
        }
        return shown;
    }

    public static void main(String[] args) throws IOException, IllegalAccessException {
        Check check = new Check();
        List<String> face = new Document().face();
        Set<String> shown = shown();
        check.due("lines of the document's face", face.size(), 39);
        for (String line : face) {
            check.due("that the class shows " + declaration(line), shown.remove(declaration(line)), true);
        }
        for (String more : shown) {
            check.due("that the document shows " + more, false, true);
        }
        check.end("FaceTest");
    }
}
