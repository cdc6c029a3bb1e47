import java.io.IOException;
import java.lang.reflect.Method;
import java.nio.file.Files;
import java.nio.file.Path;
import java.util.HashMap;
import java.util.Map;
import java.util.regex.Matcher;
import java.util.regex.Pattern;

/** What README.md says of the class: its examples answer as it tells, and it names each call of the face. */
final class ReadmeTest {
    private static final Pattern CALL = Pattern.compile("(?:int (\\w+) = )?x\\.(\\w+)\\((.*)\\); +// (-?\\d+).*");
    private static final Due due = new Due("ReadmeTest");

    public static void main(String[] args) throws IOException {
        String text = Files.readString(Path.of("README.md"));
        example(block(text, "java"));
        runForm(block(text, "text"));
        everyCall(text);
        due.end();
    }

    private static String block(String text, String language) {
        String[] parts = text.split("```" + language + "\n");
        due.is("blocks of " + language, 1, parts.length - 1);
        return parts[parts.length - 1].split("```")[0];
    }

    private static void example(String code) {
        PackageModules x = new PackageModules();
        Map<String, Integer> known = new HashMap<>();
        known.put("PackageModules.NONE", PackageModules.NONE);
        known.put("false", 0);
        known.put("true", 1);
        for (String line : code.split("\n")) {
            Matcher call = CALL.matcher(line);
            boolean told = call.matches();
            boolean plain = line.isEmpty() || line.equals("PackageModules x = new PackageModules();");
            due.is(line + " is read", 1, told != plain ? 1 : 0);
            if (told) {
                int got = Calls.answer(x, call.group(2), values(call.group(3), known));
                due.is(line, Integer.parseInt(call.group(4)), got);
                known.put(call.group(1), got);
            }
        }
    }

    private static int[] values(String told, Map<String, Integer> known) {
        String[] words = told.isEmpty() ? new String[0] : told.split(", ");
        int[] values = new int[words.length];
        for (int k = 0; k < words.length; k++) {
            values[k] = known.containsKey(words[k]) ? known.get(words[k]) : Integer.parseInt(words[k]);
        }
        return values;
    }

    private static void runForm(String text) {
        PackageModules x = new PackageModules();
        for (Run.Row row : Run.of("README.md", text).rows()) {
            due.is(row.told(), row.due(), row.on(x));
        }
    }

    private static void everyCall(String text) {
        for (Method method : PackageModules.class.getMethods()) {
            if (method.getDeclaringClass() == PackageModules.class) {
                int count = method.getParameterCount();
                String names = count == 0 ? "" : "\\w+(, \\w+){" + (count - 1) + "}";
                Pattern row = Pattern.compile("\\| `" + method.getName() + "\\(" + names + "\\)` \\|");
                due.is(method.getName() + " is told", 1, row.matcher(text).results().count());
            }
        }
    }
}
