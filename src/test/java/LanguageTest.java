import java.io.IOException;
import java.lang.reflect.Constructor;
import java.lang.reflect.Field;
import java.lang.reflect.Method;
import java.lang.reflect.Modifier;
import java.nio.file.Files;
import java.nio.file.Path;
import java.util.Arrays;
import java.util.Set;
import java.util.TreeSet;
import java.util.regex.Pattern;

/** The document's face, and those rules of LANGUAGE.md that a look at the class and its text can tell. */
public final class LanguageTest {
    private static final Path SOURCE = Path.of("src/main/java/WhiteSlopes.java");
    private static final String[] FACE = {"boolean snow(int,int)", "boolean warmth(int,int)", "boolean wind(int,int)",
        "int go(int)", "int layer(int,int,int)", "int told(int,int)", "int slide(int,int)", "int shot(int)",
        "int path(int,int)", "int shut()", "int shots()", "int pit()", "int seen(int,int)", "int matched(int)",
        "int nearest()", "int watch(int)", "int right(int)", "int count(int)"};
    private static final String[] FORBIDDEN = {"\\bthrow\\b", "\\btry\\b", "\\bcatch\\b", "\\bsynchronized\\b",
        "\\bassert\\b", "->", "::", "\\bimport\\b", "\\bpackage\\b", "\\bprotected\\b", "\\bSystem\\.(?!arraycopy)",
        "\\bThread\\b", "\\bRandom\\b", "Exact\\b", "\\.equals\\b", "\\bhashCode\\b", "\\btoString\\b"};

    private static final Check CHECK = new Check("LanguageTest");

    public static void main(String[] args) throws IOException {
        face();
        members(WhiteSlopes.class);
        for (Class<?> inside : WhiteSlopes.class.getDeclaredClasses()) {
            CHECK.due(inside + " is static", Modifier.isStatic(inside.getModifiers()), true);
            CHECK.due(inside + " is not public", Modifier.isPublic(inside.getModifiers()), false);
            members(inside);
        }
        CHECK.due("twelve classes at most", WhiteSlopes.class.getDeclaredClasses().length <= 11, true);
        text();
        CHECK.finish();
    }

    private static String sign(Method method) {
        String parameters = Arrays.toString(method.getParameterTypes()).replace(" ", "");
        return method.getReturnType() + " " + method.getName() + "("
            + parameters.substring(1, parameters.length() - 1) + ")";
    }

    private static void face() {
        CHECK.due("the class is public", Modifier.isPublic(WhiteSlopes.class.getModifiers()), true);
        CHECK.due("the class is final", Modifier.isFinal(WhiteSlopes.class.getModifiers()), true);
        Constructor<?>[] constructors = WhiteSlopes.class.getDeclaredConstructors();
        CHECK.due("one constructor", constructors.length, 1);
        CHECK.due("that takes nothing", constructors[0].getParameterCount(), 0);
        CHECK.due("and is public", Modifier.isPublic(constructors[0].getModifiers()), true);
        Set<String> found = new TreeSet<>();
        for (Method method : WhiteSlopes.class.getDeclaredMethods()) {
            if (!Modifier.isPrivate(method.getModifiers())) {
                found.add(sign(method));
            }
        }
        CHECK.due("the face is " + found, found.equals(new TreeSet<>(Arrays.asList(FACE))), true);
        for (Field field : WhiteSlopes.class.getDeclaredFields()) {
            boolean hidden = Modifier.isPrivate(field.getModifiers());
            CHECK.due("field " + field.getName() + " is private", hidden, !field.getName().equals("NONE"));
        }
    }

    private static void members(Class<?> type) {
        int own = 0;
        for (Field field : type.getDeclaredFields()) {
            boolean constant = Modifier.isStatic(field.getModifiers());
            own += constant ? 0 : 1;
            CHECK.due("static " + field + " is final", !constant || Modifier.isFinal(field.getModifiers()), true);
        }
        CHECK.due(type + " has twenty fields at most", own <= 20, true);
        for (Method method : type.getDeclaredMethods()) {
            CHECK.due(method + " takes seven at most", method.getParameterCount() <= 7, true);
            boolean ofTheFace = type == WhiteSlopes.class && Modifier.isPublic(method.getModifiers());
            CHECK.due(method + " bears its own name", ofTheFace || !isFaceName(method.getName()), true);
        }
    }

    private static boolean isFaceName(String name) {
        for (String sign : FACE) {
            if (sign.contains(" " + name + "(")) {
                return true;
            }
        }
        return false;
    }

    private static void text() throws IOException {
        String text = Files.readString(SOURCE).replaceAll("(?s)/\\*.*?\\*/", "").replaceAll("//[^\n]*", "");
        for (String forbidden : FORBIDDEN) {
            CHECK.due("text has " + forbidden, Pattern.compile(forbidden).matcher(text).find(), false);
        }
    }
}
