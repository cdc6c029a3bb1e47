import java.util.ArrayList;
import java.util.List;
import java.util.Set;
import java.util.TreeSet;

/**
 * "What is refused changes nothing", nor does asking: a run without its refused and asking calls leads to the
 * same place. Whether it is the same is seen by every call that there is, each on an object of its own.
 */
final class RefusedTest {
    private static final Set<String> TELLING = Set.of(
        "module", "pack", "type", "member", "requires", "exports", "uses", "provides", "unit", "imports", "layer");
    private static final int[] NAMES = {0, 1, 2, 5, 6, 7, 10, 30};
    private static final int[] BOOLEAN = {0, 1};
    private static final int MOST_CALLS = 512;
    private static final Due due = new Due("RefusedTest");

    public static void main(String[] args) {
        for (Run run : SentencesTest.all()) {
            if (run.rows().size() < MOST_CALLS) {
                compare(run, onlyTaken(run));
            }
        }
        due.end();
    }

    private static Run onlyTaken(Run run) {
        PackageModules x = new PackageModules();
        List<Run.Row> taken = new ArrayList<>();
        for (Run.Row row : run.rows()) {
            if (row.on(x) >= 0 && TELLING.contains(row.name())) {
                taken.add(row);
            }
        }
        return new Run(run.sentence(), taken);
    }

    private static void compare(Run whole, Run taken) {
        for (Run.Row question : questions(taken.after(taken.rows().size()))) {
            int want = question.on(taken.after(taken.rows().size()));
            int got = question.on(whole.after(whole.rows().size()));
            due.is("[" + whole.sentence() + "] without what is refused, " + question.told(), want, got);
        }
    }

    private static List<Run.Row> questions(PackageModules x) {
        List<Run.Row> all = new ArrayList<>();
        int[] modules = some(x.count(0));
        int[] packs = some(x.count(1));
        int[] types = some(x.count(2));
        addTelling(all, modules, packs, types);
        addAsking(all, modules, packs, types);
        addOfUnits(all, some(x.count(4)), types);
        addOfLayers(all, some(x.count(5)), modules);
        return all;
    }

    /** The first few and the last, and the next that would come. */
    private static int[] some(int size) {
        Set<Integer> some = new TreeSet<>();
        for (int k = 0; k < 4; k++) {
            some.add(Math.min(k, size));
        }
        some.add(Math.max(0, size - 1));
        some.add(size);
        return some.stream().mapToInt(k -> k).toArray();
    }

    private static void addTelling(List<Run.Row> all, int[] modules, int[] packs, int[] types) {
        add(all, "module");
        add(all, "pack", modules, NAMES);
        add(all, "type", packs, NAMES, one(0), one(3), one(-1));
        add(all, "member", types, NAMES, BOOLEAN, one(1), one(-1));
        add(all, "requires", modules, modules, one(0));
        add(all, "exports", packs, modules, BOOLEAN);
        add(all, "exports", packs, one(-1), BOOLEAN);
        add(all, "uses", modules, types);
        add(all, "provides", modules, types, types);
        add(all, "unit", packs);
    }

    private static void addAsking(List<Run.Row> all, int[] modules, int[] packs, int[] types) {
        add(all, "reads", modules, modules, BOOLEAN);
        add(all, "sees", modules, packs, one(0));
        add(all, "sees", modules, types, one(1));
        add(all, "looks", modules, packs);
        add(all, "split", modules);
        add(all, "graph", modules, BOOLEAN);
        add(all, "has", modules, BOOLEAN, modules);
        add(all, "provider", modules, types, new int[] {0, 1, 2});
        add(all, "count", new int[] {0, 1, 2, 3, 4, 5});
    }

    private static void addOfUnits(List<Run.Row> all, int[] units, int[] types) {
        add(all, "imports", units, one(0), types, one(0));
        add(all, "imports", units, one(1), NAMES, one(0));
        add(all, "imports", units, one(2), types, NAMES);
        add(all, "imports", units, one(3), types, one(0));
        add(all, "meaning", units, NAMES);
        add(all, "memberOf", units, NAMES, BOOLEAN);
    }

    private static void addOfLayers(List<Run.Row> all, int[] layers, int[] modules) {
        add(all, "layer", layers, modules, BOOLEAN);
        add(all, "layer", one(-1), modules, BOOLEAN);
        add(all, "loader", layers, modules);
        add(all, "finds", layers, modules, NAMES, new int[] {0, 1, 2});
    }

    private static int[] one(int value) {
        return new int[] {value};
    }

    /** The call with each choice of one value out of every row. */
    private static void add(List<Run.Row> all, String name, int[]... values) {
        int choices = 1;
        for (int[] row : values) {
            choices *= row.length;
        }
        for (int choice = 0; choice < choices; choice++) {
            int[] args = new int[values.length];
            int left = choice;
            for (int k = 0; k < values.length; k++) {
                args[k] = values[k][left % values[k].length];
                left /= values[k].length;
            }
            all.add(new Run.Row(name, args, null));
        }
    }
}
