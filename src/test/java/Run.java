import java.lang.reflect.Method;
import java.util.ArrayList;
import java.util.Arrays;
import java.util.HashMap;
import java.util.List;
import java.util.Map;

/**
 * A sentence of the document, and a run of calls on a new object that would go wrong if it did not hold.
 * The run is told as text, a call a row: "pack 0 7 = 0" with what is due behind "="; "30 times pack 0 # = #"
 * are thirty rows, # from 0 on; behind "//" stands a remark.
 */
record Run(String sentence, List<Row> rows) {
    private static final int MOST_CALLS = 512;
    private static final Map<String, Integer> WORDS = words(
        "NONE", -1, "all", -1, "BAD", -2, "NO", -3, "FULL", -4, "TWO", -5,
        "rule1", -11, "rule2", -12, "rule3", -13, "rule4", -14, "rule5", -15, "rule6", -16, "rule7", -17,
        "rule8", -18, "MIN", Integer.MIN_VALUE, "MAX", Integer.MAX_VALUE, "yes", 1, "no", 0,
        "CLASS", 0, "ABSTRACT", 1, "FACE", 2, "INNER", 3, "closed", 0, "open", 1, "maker", 2, "open+maker", 3,
        "FIELD", 0, "METHOD", 1, "PLAIN", 0, "ON", 1, "STATIC", 2, "BOTH", 3, "compiled", 0, "run", 1,
        "export", 0, "opened", 1, "pack", 0, "type", 1, "unbound", 0, "bound", 1,
        "TYPE", 0, "PACK", 1, "MEMBER", 2, "MEMBERS", 3);
    private static final Map<String, Integer> ARGUMENTS = arguments();

    record Row(String name, int[] args, Integer due) {
        int on(PackageModules x) {
            return Calls.answer(x, name, args);
        }

        String told() {
            return name + Arrays.toString(args);
        }
    }

    static Run of(String sentence, String text) {
        List<Row> rows = new ArrayList<>();
        for (String line : text.split("\n")) {
            String told = line.replaceAll("//.*", "").trim();
            if (!told.isEmpty()) {
                addRows(told.split("\\s+"), rows);
            }
        }
        if (rows.size() > MOST_CALLS) {
            throw new IllegalArgumentException(rows.size() + " calls: " + sentence);
        }
        return new Run(sentence, rows);
    }

    /** A new object after the first of the rows. */
    PackageModules after(int calls) {
        PackageModules x = new PackageModules();
        for (Row row : rows.subList(0, calls)) {
            row.on(x);
        }
        return x;
    }

    private static void addRows(String[] told, List<Row> rows) {
        boolean many = told.length > 2 && told[1].equals("times");
        int times = many ? Integer.parseInt(told[0]) : 1;
        String[] call = many ? Arrays.copyOfRange(told, 2, told.length) : told;
        for (int k = 0; k < times; k++) {
            rows.add(row(call, k));
        }
    }

    private static Row row(String[] call, int k) {
        int last = call.length - 1;
        boolean hasDue = last > 0 && call[last - 1].equals("=");
        int[] args = new int[(hasDue ? last - 1 : call.length) - 1];
        for (int at = 0; at < args.length; at++) {
            args[at] = value(call[at + 1], k);
        }
        if (args.length != ARGUMENTS.getOrDefault(call[0], -1)) {
            throw new IllegalArgumentException("no such call: " + String.join(" ", call));
        }
        return new Row(call[0], args, hasDue ? value(call[last], k) : null);
    }

    private static int value(String word, int k) {
        if (word.startsWith("#")) {
            return word.length() == 1 ? k : k + Integer.parseInt(word.substring(1));
        }
        return WORDS.containsKey(word) ? WORDS.get(word) : Integer.parseInt(word);
    }

    private static Map<String, Integer> words(Object... pairs) {
        Map<String, Integer> words = new HashMap<>();
        for (int k = 0; k < pairs.length; k += 2) {
            words.put((String) pairs[k], (Integer) pairs[k + 1]);
        }
        return words;
    }

    private static Map<String, Integer> arguments() {
        Map<String, Integer> counts = new HashMap<>();
        for (Method method : PackageModules.class.getMethods()) {
            if (method.getDeclaringClass() == PackageModules.class) {
                counts.put(method.getName(), method.getParameterCount());
            }
        }
        return counts;
    }
}
