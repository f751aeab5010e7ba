import java.io.IOException;
import java.lang.reflect.Constructor;
import java.lang.reflect.Field;
import java.lang.reflect.Method;
import java.lang.reflect.Modifier;
import java.nio.file.Files;
import java.nio.file.Path;
import java.util.Arrays;
import java.util.List;
import java.util.Set;
import java.util.TreeSet;
import java.util.regex.Pattern;

/** The public face of the document, and what LANGUAGE.md rules out in the source. */
final class FaceTest {
    private static final List<String> FACE = List.of(
            "int make(int, int, int) IllegalArgumentException IllegalStateException NegativeArraySizeException",
            "int drop(int) NoSuchElementException",
            "long map(int, int, int, int) NoSuchElementException ClassCastException IllegalArgumentException"
                    + " IllegalStateException UnsupportedOperationException",
            "int view(int, int, int, int) NoSuchElementException ClassCastException IllegalArgumentException"
                    + " IllegalStateException",
            "int cursor(int) NoSuchElementException ClassCastException IllegalStateException",
            "long move(int, int, int) NoSuchElementException ClassCastException IllegalArgumentException"
                    + " IllegalStateException",
            "long item(int, int, int) NoSuchElementException ClassCastException IllegalArgumentException"
                    + " IndexOutOfBoundsException",
            "int count(int) IllegalArgumentException");
    /** No catch at all, so none that answers what the machine throws. */
    private static final List<String> RULED_OUT = List.of("->", "::", "\\btry\\b", "\\bcatch\\b", "\\bfinally\\b",
            "\\bsynchronized\\b", "\\bassert\\b", "\\bstatic \\{", "\\bpackage\\b", "Exact\\(", "\\bSystem\\.(?!arraycopy)",
            "\\bRandom\\b", "\\bThread\\b", "\\bhashCode\\b", "\\btoString\\b", "\\bArrays\\.(?!copyOf|fill)");

    public static void main(String[] args) throws IOException {
        Runs runs = new Runs();
        Class<?> face = KeyAtlas.class;
        runs.due("The public face: public final class KeyAtlas", Modifier.toString(face.getModifiers()), "public final");
        Set<String> open = new TreeSet<>();
        Set<String> names = new TreeSet<>();
        for (Method method : face.getDeclaredMethods()) {
            if (!Modifier.isPrivate(method.getModifiers())) {
                open.add(told(method));
                names.add(method.getName());
                runs.due("The public face: public " + told(method), Modifier.toString(method.getModifiers()), "public");
            }
        }
        for (String line : FACE) {
            runs.due("The public face: public " + line, open.contains(line), true);
        }
        runs.due("The public face: no other method", open, new TreeSet<>(FACE));
        runs.due("The public face: one constructor", face.getDeclaredConstructors().length, 1);
        for (Constructor<?> constructor : face.getDeclaredConstructors()) {
            runs.due("The public face: public KeyAtlas()", constructor.toString(), "public KeyAtlas()");
        }
        for (Field field : face.getDeclaredFields()) {
            boolean isPrivate = Modifier.isPrivate(field.getModifiers());
            runs.due("The public face: no field, so this one is private: " + field.getName(), isPrivate, true);
        }
        runs.due("not too many classes", face.getDeclaredClasses().length < 12, true);
        for (Class<?> inside : face.getDeclaredClasses()) {
            runs.due("static " + inside.getName(), Modifier.isStatic(inside.getModifiers()), true);
            for (Method method : inside.getDeclaredMethods()) {
                runs.due("name of " + method, names.contains(method.getName()), false);
            }
        }
        checkSource(runs);
        runs.end();
    }

    private static String told(Method method) {
        StringBuilder text = new StringBuilder(method.getReturnType() + " " + method.getName() + "(");
        text.append(String.join(", ", Arrays.stream(method.getParameterTypes()).map(Class::getName).toList())).append(")");
        for (Class<?> thrown : method.getExceptionTypes()) {
            text.append(" ").append(thrown.getSimpleName());
        }
        return text.toString();
    }

    private static void checkSource(Runs runs) throws IOException {
        String source = Files.readString(Path.of("src/main/java/KeyAtlas.java"))
                .replaceAll("(?s)/\\*.*?\\*/", "").replaceAll("//[^\n]*", "").replaceAll("\"[^\"\n]*\"", "\"\"");
        for (String pattern : RULED_OUT) {
            runs.due("in the source: " + pattern, Pattern.compile(pattern).matcher(source).find(), false);
        }
    }
}
