import java.util.ArrayList;
import java.util.Arrays;
import java.util.Collection;
import java.util.Map;
import java.util.Random;
import java.util.TreeMap;

/** Random runs of 512 calls, each answer against that of PlainModel; the seeds are fixed. */
final class ModelTest {
    private static final int RUNS = 3000, CALLS = 512;
    private static final String[] NAMES = {
        "module", "pack", "type", "member", "requires", "exports", "uses", "provides", "reads", "sees",
        "looks", "split", "unit", "imports", "meaning", "memberOf", "graph", "has", "provider", "layer",
        "loader", "finds", "count"
    };
    /** How often each name is called, while a run builds and after it. */
    private static final int[] BUILDING = {
        3, 8, 16, 12, 16, 14, 8, 14, 1, 1, 1, 1, 3, 12, 3, 3, 1, 1, 2, 0, 0, 0, 1
    };
    private static final int[] ASKING = {
        1, 1, 1, 3, 3, 3, 4, 6, 4, 5, 3, 4, 1, 16, 10, 12, 4, 4, 10, 4, 5, 14, 1
    };
    /** Answers that the runs must have met, so that no rule goes untried: a call's name, its answer. */
    private static final String[] MET = {
        "module -4", "pack -3", "pack -4", "type -3", "type -4", "member -3", "requires -11",
        "requires -12", "exports -11", "exports -12", "exports -13", "uses -11", "uses -18", "provides -11",
        "provides -12", "provides -13", "provides -14", "provides -15", "provides -16", "provides -17",
        "provides -18", "unit -4", "imports -4", "imports -11", "imports -12", "imports -13", "meaning -5",
        "memberOf -5", "provider -3", "provider -1", "layer -4", "layer -11", "layer -12", "loader -1",
        "finds -3", "finds -11", "finds -12", "finds -13", "split -1", "split 0"
    };
    private static final Due due = new Due("ModelTest");

    private final Random random;
    private final PackageModules real = new PackageModules();
    private final PlainModel plain = new PlainModel();
    private final int names;
    private final Map<String, Integer> met;

    private ModelTest(long seed, Map<String, Integer> met) {
        random = new Random(seed);
        names = 2 + random.nextInt(seed % 5 == 0 ? 29 : 5);
        this.met = met;
    }

    public static void main(String[] args) {
        Map<String, Integer> met = new TreeMap<>();
        for (int run = 0; run < RUNS && due.wrong() == 0; run++) {
            new ModelTest(run, met).go(run);
        }
        for (String answer : MET) {
            due.is("the runs have met " + answer, 1, met.containsKey(answer) ? 1 : 0);
        }
        due.end();
    }

    private void go(int run) {
        for (int call = 0; call < CALLS && due.wrong() == 0; call++) {
            int which = call < 4 ? 0 : pick(call < CALLS / 2 ? BUILDING : ASKING);
            int[] a = arguments(which);
            int want = plainAnswer(which, a);
            met.merge(NAMES[which] + " " + want, 1, Integer::sum);
            String told = "run " + run + " call " + call + " " + NAMES[which] + Arrays.toString(a);
            due.is(told, want, Calls.answer(real, NAMES[which], a));
        }
    }

    private int pick(int[] weights) {
        int left = random.nextInt(Arrays.stream(weights).sum());
        for (int k = 0; k < weights.length; k++) {
            left -= weights[k];
            if (left < 0) {
                return k;
            }
        }
        return 0;
    }

    /** Mostly a number below the size; now and then one beside it. */
    private int below(int size) {
        if (random.nextInt(60) == 0) {
            return random.nextBoolean() ? -1 : size;
        }
        return size == 0 ? 0 : random.nextInt(size);
    }

    private int orNone(int size) {
        return random.nextInt(3) == 0 ? -1 : below(size);
    }

    private int name() {
        return random.nextInt(60) == 0 ? random.nextInt(33) - 1 : random.nextInt(names);
    }

    private int mod() {
        return below(plain.count(0));
    }

    private int pack() {
        return below(plain.count(1));
    }

    private int type() {
        return below(plain.count(2));
    }

    private int flag() {
        return random.nextInt(2);
    }

    private int mostlyOpen() {
        return random.nextInt(4) == 0 ? below(4) : 1 + 2 * flag();
    }

    private int[] arguments(int which) {
        switch (NAMES[which]) {
            case "module": return new int[] {};
            case "pack": return new int[] {mod(), name()};
            case "type": return new int[] {pack(), name(), flag() * below(4), mostlyOpen(), orNone(plain.count(2))};
            case "member":
                return new int[] {type(), flag() * name(), below(2), flag() | flag(), orNone(plain.count(2))};
            case "requires": return new int[] {mod(), mod(), below(4)};
            case "exports": return new int[] {pack(), orNone(plain.count(0)), random.nextInt(3) / 2};
            case "uses": return new int[] {mod(), flag() == 0 ? type() : providedType()};
            case "provides": return providesArguments();
            case "reads": return new int[] {mod(), mod(), flag()};
            case "sees": {
                int asType = flag();
                return new int[] {mod(), asType == 1 ? type() : pack(), asType};
            }
            case "looks": return new int[] {mod(), pack()};
            case "split": return new int[] {mod()};
            case "unit": return new int[] {pack()};
            case "imports": return importArguments();
            case "meaning": return new int[] {below(Math.min(3, plain.count(4))), name()};
            case "memberOf": return new int[] {below(Math.min(3, plain.count(4))), flag() * name(), below(2)};
            case "graph": return new int[] {mod(), flag()};
            case "has": return new int[] {mod(), flag(), mod()};
            case "provider": return providerArguments();
            case "layer": return new int[] {orNone(plain.count(5)), mod(), flag()};
            case "loader": return new int[] {below(plain.count(5)), mod()};
            case "finds": return findsArguments();
            default: return new int[] {below(6)};
        }
    }

    /** Half of them with the module of the type and a service above the type, that few rules break. */
    private int[] providesArguments() {
        int type = type();
        if (flag() == 0 || type < 0 || type >= plain.count(2)) {
            return new int[] {mod(), type(), type};
        }
        PlainModel.Type it = plain.types.get(type);
        int service = flag() == 0 || it.parent() == -1 ? type : it.parent();
        return new int[] {plain.packs.get(it.pack()).module(), service, type};
    }

    private int providedType() {
        return plain.provides.isEmpty() ? type() : oneOf(plain.provides).service();
    }

    private <T> T oneOf(Collection<T> all) {
        return new ArrayList<>(all).get(random.nextInt(all.size()));
    }

    /** Mostly of a use that is told. */
    private int[] providerArguments() {
        int k = random.nextInt(4) - (random.nextInt(20) == 0 ? 1 : 0);
        if (random.nextInt(4) == 0 || plain.uses.isEmpty()) {
            return new int[] {mod(), type(), k};
        }
        PlainModel.Use use = oneOf(plain.uses);
        return new int[] {use.module(), use.service(), k};
    }

    /** Mostly of a module that the layer has, and of names that a package and a type have. */
    private int[] findsArguments() {
        int layer = below(plain.count(5));
        if (random.nextInt(4) == 0 || layer < 0 || layer >= plain.count(5) || plain.count(2) == 0) {
            return new int[] {layer, mod(), name(), name()};
        }
        int parent = plain.layers.get(layer).parent();
        int known = flag() == 0 || parent == -1 ? layer : parent;
        PlainModel.Type type = oneOf(plain.types);
        int module = oneOf(plain.layers.get(known).modules());
        return new int[] {layer, module, plain.packs.get(type.pack()).name(), type.name()};
    }

    private int[] importArguments() {
        int kind = below(4);
        int unit = below(flag() == 0 ? plain.count(4) : Math.min(3, plain.count(4)));
        boolean stray = random.nextInt(60) == 0;
        return new int[] {unit, kind, kind == 1 ? name() : type(), kind == 2 || stray ? flag() * name() : 0};
    }

    private int plainAnswer(int which, int[] a) {
        switch (NAMES[which]) {
            case "module": return plain.module();
            case "pack": return plain.pack(a[0], a[1]);
            case "type": return plain.type(a[0], a[1], a[2], a[3], a[4]);
            case "member": return plain.member(a[0], a[1], a[2], a[3] == 1, a[4]);
            case "requires": return plain.requires(a[0], a[1], a[2]);
            case "exports": return plain.exports(a[0], a[1], a[2] == 1);
            case "uses": return plain.uses(a[0], a[1]);
            case "provides": return plain.provides(a[0], a[1], a[2]);
            case "reads": return plain.reads(a[0], a[1], a[2] == 1);
            case "sees": return plain.sees(a[0], a[1], a[2] == 1);
            case "looks": return plain.looks(a[0], a[1]);
            case "split": return plain.split(a[0]);
            case "unit": return plain.unit(a[0]);
            case "imports": return plain.imports(a[0], a[1], a[2], a[3]);
            case "meaning": return plain.meaning(a[0], a[1]);
            case "memberOf": return plain.memberOf(a[0], a[1], a[2]);
            case "graph": return plain.graph(a[0], a[1] == 1);
            case "has": return plain.has(a[0], a[1] == 1, a[2]);
            case "provider": return plain.provider(a[0], a[1], a[2]);
            case "layer": return plain.layer(a[0], a[1], a[2] == 1);
            case "loader": return plain.loader(a[0], a[1]);
            case "finds": return plain.finds(a[0], a[1], a[2], a[3]);
            default: return plain.count(a[0]);
        }
    }
}
