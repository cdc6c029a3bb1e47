import java.io.IOException;
import java.lang.reflect.Constructor;
import java.lang.reflect.Field;
import java.lang.reflect.Member;
import java.lang.reflect.Method;
import java.lang.reflect.Modifier;
import java.nio.file.Files;
import java.nio.file.Path;
import java.util.Arrays;
import java.util.Set;
import java.util.TreeSet;
import java.util.regex.Pattern;

/** The public face is the document's and no other, and the file keeps to what LANGUAGE.md leaves. */
final class FaceTest {
    private static final String[] FACE = {
        "module()", "pack(int, int)", "type(int, int, int, int, int)", "member(int, int, int, boolean, int)",
        "requires(int, int, int)", "exports(int, int, boolean)", "uses(int, int)", "provides(int, int, int)",
        "reads(int, int, boolean)", "sees(int, int, boolean)", "looks(int, int)", "split(int)", "unit(int)",
        "imports(int, int, int, int)", "meaning(int, int)", "memberOf(int, int, int)", "graph(int, boolean)",
        "has(int, boolean, int)", "provider(int, int, int)", "layer(int, int, boolean)", "loader(int, int)",
        "finds(int, int, int, int)", "count(int)"
    };
    private static final String[] LEFT_OUT = {
        "\\bthrow\\b", "\\btry\\b", "\\bcatch\\b", "\\bsynchronized\\b", "\\bassert\\b", "\\bstatic\\s*\\{", "->", "::",
        "\\bpackage\\b", "\\bprotected\\b", "Exact\\b"
    };
    private static final Due due = new Due("FaceTest");

    public static void main(String[] args) throws IOException {
        constants();
        methods();
        insides();
        words();
        due.end();
    }

    private static boolean isPrivate(Member member) {
        return Modifier.isPrivate(member.getModifiers());
    }

    private static void constants() {
        due.is("NONE", -1, PackageModules.NONE);
        due.is("BAD", -2, PackageModules.BAD);
        due.is("NO", -3, PackageModules.NO);
        due.is("FULL", -4, PackageModules.FULL);
        due.is("TWO", -5, PackageModules.TWO);
        int seen = 0;
        for (Field field : PackageModules.class.getDeclaredFields()) {
            seen += isPrivate(field) ? 0 : 1;
            boolean kept = !Modifier.isStatic(field.getModifiers()) || Modifier.isFinal(field.getModifiers());
            due.is(field.getName() + " is final if static", 1, kept ? 1 : 0);
        }
        due.is("fields that can be seen", 5, seen);
    }

    private static void methods() {
        Set<String> wanted = new TreeSet<>(Arrays.asList(FACE));
        Set<String> publicNames = new TreeSet<>();
        for (Method method : PackageModules.class.getDeclaredMethods()) {
            if (!isPrivate(method)) {
                String kinds = Arrays.toString(method.getParameterTypes()).replaceAll("[\\[\\]]", "");
                String face = method.getName() + "(" + kinds + ")";
                due.is(face + " is of the face", 1, wanted.remove(face) ? 1 : 0);
                due.is(face + " is public", 1, Modifier.isPublic(method.getModifiers()) ? 1 : 0);
                due.is(face + " is no static", 0, Modifier.isStatic(method.getModifiers()) ? 1 : 0);
                due.is(face + " answers an int", 1, method.getReturnType() == int.class ? 1 : 0);
                publicNames.add(method.getName());
            }
        }
        due.is("missing " + wanted, 0, wanted.size());
        for (Method method : PackageModules.class.getDeclaredMethods()) {
            boolean twin = isPrivate(method) && publicNames.contains(method.getName());
            due.is(method.getName() + " has a private twin", 0, twin ? 1 : 0);
        }
    }

    private static void insides() {
        Constructor<?>[] made = PackageModules.class.getDeclaredConstructors();
        due.is("constructors", 1, made.length);
        due.is("its arguments", 0, made[0].getParameterCount());
        due.is("it is public", 1, Modifier.isPublic(made[0].getModifiers()) ? 1 : 0);
        due.is("final", 1, Modifier.isFinal(PackageModules.class.getModifiers()) ? 1 : 0);
        Class<?>[] inside = PackageModules.class.getDeclaredClasses();
        due.is("at most twelve classes", 1, inside.length <= 11 ? 1 : 0);
        for (Class<?> each : inside) {
            due.is(each.getName() + " is static", 1, Modifier.isStatic(each.getModifiers()) ? 1 : 0);
            due.is(each.getName() + " is not public", 0, Modifier.isPublic(each.getModifiers()) ? 1 : 0);
        }
    }

    private static void words() throws IOException {
        String text = Files.readString(Path.of("src/main/java/PackageModules.java"));
        String code = text.replaceAll("(?s)/\\*.*?\\*/", "").replaceAll("//[^\n]*", "");
        for (String word : LEFT_OUT) {
            due.is("the file has " + word, 0, Pattern.compile(word).matcher(code).find() ? 1 : 0);
        }
        for (String line : text.split("\n")) {
            boolean other = line.startsWith("import") && !line.equals("import java.util.Arrays;");
            due.is(line, 0, other ? 1 : 0);
        }
    }
}
