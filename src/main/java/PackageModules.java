import java.util.Arrays;

/**
 * Packages and modules: who reads, sees and finds what. The answers follow the numbered promises of
 * the document; sets of modules are bits of an int, as there are never more than twelve.
 */
public final class PackageModules {
    public static final int NONE = -1, BAD = -2, NO = -3, FULL = -4, TWO = -5;

    private static final int MAX_MODULES = 12;
    private static final int MAX_PACKS = 30;
    private static final int MAX_TYPES = 40;
    private static final int MAX_MEMBERS = 60;
    private static final int MAX_UNITS = 12;
    private static final int MAX_IMPORTS = 10;
    private static final int MAX_LAYERS = 4;
    private static final int NAMES = 31;

    private static final int REQUIRE_KINDS = 4;
    private static final int ON = 1;
    private static final int STATIC = 2;

    private static final int TYPE_KINDS = 4;
    private static final int TYPE_FLAGS = 4;
    private static final int PLAIN_CLASS = 0;
    private static final int OPEN = 1;
    private static final int MAKER = 2;

    private static final int MEMBER_KINDS = 2;
    private static final int METHOD = 1;
    private static final int PROVIDER_NAME = 0;

    private static final int IMPORT_KINDS = 4;
    private static final int IMPORT_TYPE = 0;
    private static final int IMPORT_PACK = 1;
    private static final int IMPORT_MEMBER = 2;
    private static final int IMPORT_ALL_MEMBERS = 3;

    private static final int KEPT = 0;

    private final Modules modules;
    private final Packs packs;
    private final Types types;
    private final Members members;
    private final Units units;
    private final Services services;
    private final Layers layers;

    public PackageModules() {
        modules = new Modules();
        packs = new Packs();
        types = new Types();
        members = new Members();
        units = new Units();
        services = new Services();
        layers = new Layers();
    }

    public int module() {
        return modules.add();
    }

    public int pack(int module, int name) {
        if (!modules.holds(module) || !isName(name)) {
            return BAD;
        }
        if (packs.find(module, name) != NONE) {
            return NO;
        }
        return packs.add(module, name);
    }

    public int type(int pack, int name, int kind, int flags, int parent) {
        if (!packs.holds(pack) || !isName(name)) {
            return BAD;
        }
        if (!within(kind, TYPE_KINDS) || !within(flags, TYPE_FLAGS) || !isTypeOrNone(parent)) {
            return BAD;
        }
        if (types.find(pack, name) != NONE) {
            return NO;
        }
        return types.add(pack, name, kind, flags, parent);
    }

    public int member(int type, int name, int kind, boolean open, int gives) {
        if (!types.holds(type) || !isName(name)) {
            return BAD;
        }
        if (!within(kind, MEMBER_KINDS) || !isTypeOrNone(gives)) {
            return BAD;
        }
        if (members.find(type, name, kind) != NONE) {
            return NO;
        }
        return members.add(type, name, kind, open, gives);
    }

    public int requires(int module, int other, int how) {
        if (!modules.holds(module) || !modules.holds(other) || !within(how, REQUIRE_KINDS)) {
            return BAD;
        }
        if (modules.reaches(other, module)) {
            return broken(1);
        }
        if (modules.needsAlready(module, other)) {
            return broken(2);
        }
        modules.join(module, other, how);
        return 1;
    }

    public int exports(int pack, int to, boolean looks) {
        if (!packs.holds(pack) || (to != NONE && !modules.holds(to))) {
            return BAD;
        }
        if (!looks && !types.anyIn(pack)) {
            return broken(1);
        }
        if (packs.isTold(pack, to, looks)) {
            return broken(2);
        }
        if (packs.ownerOf(pack) == to) {
            return broken(3);
        }
        packs.tell(pack, to, looks);
        return 1;
    }

    public int uses(int module, int service) {
        if (!modules.holds(module) || !types.holds(service)) {
            return BAD;
        }
        if (!isTypeSeen(module, service)) {
            return broken(1);
        }
        if (services.isUsed(module, service)) {
            return broken(8);
        }
        services.use(module, service);
        return 1;
    }

    public int provides(int module, int service, int type) {
        if (!modules.holds(module) || !types.holds(service) || !types.holds(type)) {
            return BAD;
        }
        int rule = provideRule(module, service, type);
        if (rule != KEPT) {
            return broken(rule);
        }
        services.provide(service, type);
        return 1;
    }

    public int reads(int module, int other, boolean run) {
        if (!modules.holds(module) || !modules.holds(other)) {
            return BAD;
        }
        return asAnswer(hasBit(modules.readBy(module, run), other));
    }

    public int sees(int module, int k, boolean type) {
        if (!modules.holds(module) || !(type ? types.holds(k) : packs.holds(k))) {
            return BAD;
        }
        return asAnswer(type ? isTypeSeen(module, k) : isPackSeen(module, k));
    }

    public int looks(int module, int pack) {
        if (!modules.holds(module) || !packs.holds(pack)) {
            return BAD;
        }
        return asAnswer(packs.ownerOf(pack) == module || packs.isOpenedTo(pack, module));
    }

    public int split(int module) {
        return modules.holds(module) ? leastSplitName(module) : BAD;
    }

    public int unit(int pack) {
        return packs.holds(pack) ? units.add(pack) : BAD;
    }

    public int imports(int unit, int kind, int what, int name) {
        if (!units.holds(unit) || !isImport(kind, what, name)) {
            return BAD;
        }
        if (units.isFull(unit)) {
            return FULL;
        }
        int rule = importRule(unit, kind, what, name);
        return rule != KEPT ? broken(rule) : units.addImport(unit, kind, what, name);
    }

    public int meaning(int unit, int name) {
        if (!units.holds(unit) || !isName(name)) {
            return BAD;
        }
        int single = singlyImportedType(unit, name);
        if (single != NONE) {
            return single;
        }
        int own = types.find(units.packOf(unit), name);
        return own != NONE ? own : widelyImportedType(unit, name);
    }

    public int memberOf(int unit, int name, int kind) {
        if (!units.holds(unit) || !isName(name) || !within(kind, MEMBER_KINDS)) {
            return BAD;
        }
        int single = importedMember(unit, IMPORT_MEMBER, name, kind);
        return single != NONE ? single : importedMember(unit, IMPORT_ALL_MEMBERS, name, kind);
    }

    public int graph(int root, boolean bound) {
        return modules.holds(root) ? Integer.bitCount(graphOf(root, bound)) : BAD;
    }

    public int has(int root, boolean bound, int module) {
        if (!modules.holds(root) || !modules.holds(module)) {
            return BAD;
        }
        return asAnswer(hasBit(graphOf(root, bound), module));
    }

    public int provider(int root, int service, int k) {
        if (!modules.holds(root) || !types.holds(service)) {
            return BAD;
        }
        if (!services.isUsed(root, service)) {
            return NO;
        }
        return k < 0 ? NONE : providerAt(graphOf(root, true), service, k);
    }

    public int layer(int parent, int root, boolean bound) {
        if ((parent != NONE && !layers.holds(parent)) || !modules.holds(root)) {
            return BAD;
        }
        if (layers.isFull()) {
            return FULL;
        }
        int own = graphOf(root, bound) & ~layers.knownTo(parent);
        if (anySplit(own)) {
            return broken(1);
        }
        return own == 0 ? broken(2) : layers.add(parent, own);
    }

    public int loader(int layer, int module) {
        if (!layers.holds(layer) || !modules.holds(module)) {
            return BAD;
        }
        return layers.homeOf(layer, module);
    }

    public int finds(int layer, int module, int packName, int name) {
        if (!layers.holds(layer) || !modules.holds(module) || !isName(packName) || !isName(name)) {
            return BAD;
        }
        int home = layers.homeOf(layer, module);
        if (home == NONE) {
            return NO;
        }
        int pack = foundPack(home, module, packName);
        if (pack == NONE) {
            return broken(1);
        }
        int type = types.find(pack, name);
        if (type == NONE) {
            return broken(2);
        }
        return types.isOpen(type) || packs.ownerOf(pack) == module ? type : broken(3);
    }

    public int count(int what) {
        switch (what) {
            case 0:
                return modules.size;
            case 1:
                return packs.size;
            case 2:
                return types.size;
            case 3:
                return members.size;
            case 4:
                return units.size;
            case 5:
                return layers.size;
            default:
                return BAD;
        }
    }

    private static boolean within(int value, int bound) {
        return value >= 0 && value < bound;
    }

    private static boolean isName(int name) {
        return within(name, NAMES);
    }

    private static boolean hasBit(int set, int bit) {
        return (set & (1 << bit)) != 0;
    }

    private static int broken(int rule) {
        return -10 - rule;
    }

    private static int asAnswer(boolean holds) {
        return holds ? 1 : 0;
    }

    private boolean isTypeOrNone(int type) {
        return type == NONE || types.holds(type);
    }

    private int ownerOfType(int type) {
        return packs.ownerOf(types.packOf(type));
    }

    private int ownerOfUnit(int unit) {
        return packs.ownerOf(units.packOf(unit));
    }

    private boolean isPackSeen(int module, int pack) {
        return packs.isSeenBy(pack, module, modules.readBy(module, false));
    }

    private boolean isTypeSeen(int module, int type) {
        if (ownerOfType(type) == module) {
            return true;
        }
        return types.isOpen(type) && isPackSeen(module, types.packOf(type));
    }

    private int leastSplitName(int module) {
        int readable = modules.readBy(module, false);
        int once = 0;
        int twice = 0;
        for (int pack = 0; pack < packs.size; pack++) {
            if (packs.isSeenBy(pack, module, readable)) {
                int bit = 1 << packs.nameOf(pack);
                twice |= once & bit;
                once |= bit;
            }
        }
        for (int name = 0; name < NAMES; name++) {
            if (hasBit(twice, name)) {
                return name;
            }
        }
        return NONE;
    }

    private boolean anySplit(int set) {
        for (int module = 0; module < modules.size; module++) {
            if (hasBit(set, module) && leastSplitName(module) != NONE) {
                return true;
            }
        }
        return false;
    }

    private boolean isImport(int kind, int what, int name) {
        if (!within(kind, IMPORT_KINDS)) {
            return false;
        }
        boolean known = kind == IMPORT_PACK ? isName(what) : types.holds(what);
        return known && (kind == IMPORT_MEMBER ? isName(name) : name == 0);
    }

    private int importRule(int unit, int kind, int what, int name) {
        int module = ownerOfUnit(unit);
        if (kind == IMPORT_PACK ? !isPackNameSeen(module, what) : !isTypeSeen(module, what)) {
            return 1;
        }
        if (kind == IMPORT_TYPE && importsRival(unit, what)) {
            return 2;
        }
        if (kind == IMPORT_MEMBER && !hasUsableMember(unit, what, name)) {
            return 2;
        }
        return units.hasImport(unit, kind, what, name) ? 3 : KEPT;
    }

    private boolean isPackNameSeen(int module, int name) {
        int readable = modules.readBy(module, false);
        for (int pack = 0; pack < packs.size; pack++) {
            if (packs.nameOf(pack) == name && packs.isSeenBy(pack, module, readable)) {
                return true;
            }
        }
        return false;
    }

    private boolean importsRival(int unit, int type) {
        int single = singlyImportedType(unit, types.nameOf(type));
        return single != NONE && single != type;
    }

    private boolean hasUsableMember(int unit, int type, int name) {
        for (int kind = 0; kind < MEMBER_KINDS; kind++) {
            if (usableMember(unit, type, name, kind) != NONE) {
                return true;
            }
        }
        return false;
    }

    private int usableMember(int unit, int type, int name, int kind) {
        int member = nearestMember(type, name, kind);
        if (member == NONE) {
            return NONE;
        }
        boolean own = ownerOfType(members.typeOf(member)) == ownerOfUnit(unit);
        return own || members.isOpen(member) ? member : NONE;
    }

    private int nearestMember(int type, int name, int kind) {
        int at = type;
        for (int step = 0; step < MAX_TYPES && at != NONE; step++) {
            int member = members.find(at, name, kind);
            if (member != NONE) {
                return member;
            }
            at = types.parentOf(at);
        }
        return NONE;
    }

    private int singlyImportedType(int unit, int name) {
        for (int k = 0; k < units.importsOf(unit); k++) {
            if (units.kindAt(unit, k) == IMPORT_TYPE) {
                int type = units.whatAt(unit, k);
                if (types.nameOf(type) == name) {
                    return type;
                }
            }
        }
        return NONE;
    }

    private int widelyImportedType(int unit, int name) {
        int module = ownerOfUnit(unit);
        int found = NONE;
        for (int type = 0; type < types.size; type++) {
            if (types.nameOf(type) == name && isWidelyImported(unit, type) && isTypeSeen(module, type)) {
                if (found != NONE) {
                    return TWO;
                }
                found = type;
            }
        }
        return found;
    }

    private boolean isWidelyImported(int unit, int type) {
        return units.hasImport(unit, IMPORT_PACK, packs.nameOf(types.packOf(type)), 0);
    }

    private int importedMember(int unit, int importKind, int name, int kind) {
        int found = NONE;
        for (int k = 0; k < units.importsOf(unit); k++) {
            int member = memberByImport(unit, k, importKind, name, kind);
            if (member != NONE && member != found) {
                if (kind == METHOD) {
                    return member;
                }
                if (found != NONE) {
                    return TWO;
                }
                found = member;
            }
        }
        return found;
    }

    private int memberByImport(int unit, int k, int importKind, int name, int kind) {
        if (units.kindAt(unit, k) != importKind) {
            return NONE;
        }
        if (importKind == IMPORT_MEMBER && units.nameAt(unit, k) != name) {
            return NONE;
        }
        return usableMember(unit, units.whatAt(unit, k), name, kind);
    }

    private int provideRule(int module, int service, int type) {
        if (!isTypeSeen(module, service)) {
            return 1;
        }
        if (ownerOfType(type) != module) {
            return 2;
        }
        if (!types.isOpen(type)) {
            return 3;
        }
        int giver = members.find(type, PROVIDER_NAME, METHOD);
        int rule = giver != NONE && members.isOpen(giver)
                ? giverRule(giver, service) : makerRule(type, service);
        if (rule != KEPT) {
            return rule;
        }
        return services.isProvided(service, type) ? 8 : KEPT;
    }

    private int giverRule(int giver, int service) {
        return types.isSubtype(members.givenBy(giver), service) ? KEPT : 4;
    }

    private int makerRule(int type, int service) {
        if (types.kindOf(type) != PLAIN_CLASS) {
            return 5;
        }
        if (!types.hasMaker(type)) {
            return 6;
        }
        return types.isSubtype(type, service) ? KEPT : 7;
    }

    private int graphOf(int root, boolean bound) {
        int set = modules.neededAtRun(1 << root);
        if (!bound) {
            return set;
        }
        for (int round = 0; round < MAX_MODULES; round++) {
            int before = set;
            set = modules.neededAtRun(set | providersFor(set));
            if (set == before) {
                break;
            }
        }
        return set;
    }

    private int providersFor(int set) {
        long used = services.usedBy(set);
        int providers = 0;
        for (int k = 0; k < services.size; k++) {
            if ((used & (1L << services.serviceAt(k))) != 0) {
                providers |= 1 << ownerOfType(services.typeAt(k));
            }
        }
        return providers;
    }

    private int providerAt(int set, int service, int k) {
        int left = k;
        for (int module = 0; module < modules.size; module++) {
            if (!hasBit(set, module)) {
                continue;
            }
            for (int at = 0; at < services.size; at++) {
                int type = services.typeAt(at);
                if (services.serviceAt(at) == service && ownerOfType(type) == module) {
                    if (left == 0) {
                        return type;
                    }
                    left--;
                }
            }
        }
        return NONE;
    }

    private int foundPack(int home, int module, int packName) {
        int own = packs.find(module, packName);
        if (own != NONE) {
            return own;
        }
        int reachable = modules.readBy(module, true) & layers.knownTo(home);
        for (int other = 0; other < modules.size; other++) {
            if (hasBit(reachable, other)) {
                int pack = packs.find(other, packName);
                if (pack != NONE && packs.isExportedTo(pack, module)) {
                    return pack;
                }
            }
        }
        return NONE;
    }

    /** Who requires whom: for each module four sets of modules. */
    private static final class Modules {
        int size;
        private final int[] needs = new int[MAX_MODULES];
        private final int[] passes = new int[MAX_MODULES];
        private final int[] runNeeds = new int[MAX_MODULES];
        private final int[] runPasses = new int[MAX_MODULES];

        boolean holds(int module) {
            return within(module, size);
        }

        int add() {
            return size < MAX_MODULES ? size++ : FULL;
        }

        void join(int module, int other, int how) {
            int bit = 1 << other;
            boolean on = (how & ON) != 0;
            boolean atRun = (how & STATIC) == 0;
            needs[module] |= bit;
            passes[module] |= on ? bit : 0;
            runNeeds[module] |= atRun ? bit : 0;
            runPasses[module] |= on && atRun ? bit : 0;
        }

        boolean needsAlready(int module, int other) {
            return hasBit(needs[module], other);
        }

        boolean reaches(int from, int to) {
            return hasBit(closed(1 << from, needs), to);
        }

        int readBy(int module, boolean run) {
            int start = 1 << module;
            return run ? closed(start | runNeeds[module], runPasses)
                    : closed(start | needs[module], passes);
        }

        int neededAtRun(int set) {
            return closed(set, runNeeds);
        }

        private int closed(int start, int[] edges) {
            int set = start;
            for (int round = 0; round < MAX_MODULES; round++) {
                int before = set;
                for (int module = 0; module < size; module++) {
                    set |= hasBit(set, module) ? edges[module] : 0;
                }
                if (set == before) {
                    break;
                }
            }
            return set;
        }
    }

    /** Packages, each with the sets of modules that it is exported and opened to. */
    private static final class Packs {
        // To all is kept beside the modules, as a package may be told to all and to one.
        private static final int ALL = 1 << MAX_MODULES;

        int size;
        private final int[] owners = new int[MAX_PACKS];
        private final int[] names = new int[MAX_PACKS];
        private final int[] exported = new int[MAX_PACKS];
        private final int[] opened = new int[MAX_PACKS];

        boolean holds(int pack) {
            return within(pack, size);
        }

        int add(int owner, int name) {
            if (size >= MAX_PACKS) {
                return FULL;
            }
            owners[size] = owner;
            names[size] = name;
            return size++;
        }

        int find(int owner, int name) {
            for (int pack = 0; pack < size; pack++) {
                if (owners[pack] == owner && names[pack] == name) {
                    return pack;
                }
            }
            return NONE;
        }

        int ownerOf(int pack) {
            return owners[pack];
        }

        int nameOf(int pack) {
            return names[pack];
        }

        boolean isTold(int pack, int to, boolean looks) {
            return ((looks ? opened[pack] : exported[pack]) & bitOf(to)) != 0;
        }

        void tell(int pack, int to, boolean looks) {
            if (looks) {
                opened[pack] |= bitOf(to);
            } else {
                exported[pack] |= bitOf(to);
            }
        }

        boolean isExportedTo(int pack, int module) {
            return (exported[pack] & (ALL | bitOf(module))) != 0;
        }

        boolean isOpenedTo(int pack, int module) {
            return (opened[pack] & (ALL | bitOf(module))) != 0;
        }

        boolean isSeenBy(int pack, int module, int readable) {
            if (owners[pack] == module) {
                return true;
            }
            return hasBit(readable, owners[pack]) && isExportedTo(pack, module);
        }

        private static int bitOf(int to) {
            return to == NONE ? ALL : 1 << to;
        }
    }

    private static final class Types {
        int size;
        private final int[] packs = new int[MAX_TYPES];
        private final int[] names = new int[MAX_TYPES];
        private final int[] kinds = new int[MAX_TYPES];
        private final int[] flags = new int[MAX_TYPES];
        private final int[] parents = new int[MAX_TYPES];

        boolean holds(int type) {
            return within(type, size);
        }

        int add(int pack, int name, int kind, int flag, int parent) {
            if (size >= MAX_TYPES) {
                return FULL;
            }
            packs[size] = pack;
            names[size] = name;
            kinds[size] = kind;
            flags[size] = flag;
            parents[size] = parent;
            return size++;
        }

        int find(int pack, int name) {
            for (int type = 0; type < size; type++) {
                if (packs[type] == pack && names[type] == name) {
                    return type;
                }
            }
            return NONE;
        }

        boolean anyIn(int pack) {
            for (int type = 0; type < size; type++) {
                if (packs[type] == pack) {
                    return true;
                }
            }
            return false;
        }

        int packOf(int type) {
            return packs[type];
        }

        int nameOf(int type) {
            return names[type];
        }

        int kindOf(int type) {
            return kinds[type];
        }

        int parentOf(int type) {
            return parents[type];
        }

        boolean isOpen(int type) {
            return (flags[type] & OPEN) != 0;
        }

        boolean hasMaker(int type) {
            return (flags[type] & MAKER) != 0;
        }

        boolean isSubtype(int type, int of) {
            int at = type;
            for (int step = 0; step < MAX_TYPES && at != NONE; step++) {
                if (at == of) {
                    return true;
                }
                at = parents[at];
            }
            return false;
        }
    }

    private static final class Members {
        int size;
        private final int[] types = new int[MAX_MEMBERS];
        private final int[] names = new int[MAX_MEMBERS];
        private final int[] kinds = new int[MAX_MEMBERS];
        private final boolean[] opens = new boolean[MAX_MEMBERS];
        private final int[] given = new int[MAX_MEMBERS];

        int add(int type, int name, int kind, boolean open, int gives) {
            if (size >= MAX_MEMBERS) {
                return FULL;
            }
            types[size] = type;
            names[size] = name;
            kinds[size] = kind;
            opens[size] = open;
            given[size] = gives;
            return size++;
        }

        int find(int type, int name, int kind) {
            for (int member = 0; member < size; member++) {
                if (types[member] == type && names[member] == name && kinds[member] == kind) {
                    return member;
                }
            }
            return NONE;
        }

        int typeOf(int member) {
            return types[member];
        }

        boolean isOpen(int member) {
            return opens[member];
        }

        int givenBy(int member) {
            return given[member];
        }
    }

    /** Units; the imports of a unit stand in one row for all units, MAX_IMPORTS places for each. */
    private static final class Units {
        int size;
        private final int[] packs = new int[MAX_UNITS];
        private final int[] sizes = new int[MAX_UNITS];
        private final int[] kinds = new int[MAX_UNITS * MAX_IMPORTS];
        private final int[] whats = new int[MAX_UNITS * MAX_IMPORTS];
        private final int[] names = new int[MAX_UNITS * MAX_IMPORTS];

        boolean holds(int unit) {
            return within(unit, size);
        }

        int add(int pack) {
            if (size >= MAX_UNITS) {
                return FULL;
            }
            packs[size] = pack;
            return size++;
        }

        int packOf(int unit) {
            return packs[unit];
        }

        int importsOf(int unit) {
            return sizes[unit];
        }

        boolean isFull(int unit) {
            return sizes[unit] >= MAX_IMPORTS;
        }

        int addImport(int unit, int kind, int what, int name) {
            if (isFull(unit)) {
                return FULL;
            }
            int at = unit * MAX_IMPORTS + sizes[unit];
            kinds[at] = kind;
            whats[at] = what;
            names[at] = name;
            sizes[unit]++;
            return sizes[unit];
        }

        int kindAt(int unit, int k) {
            return kinds[unit * MAX_IMPORTS + k];
        }

        int whatAt(int unit, int k) {
            return whats[unit * MAX_IMPORTS + k];
        }

        int nameAt(int unit, int k) {
            return names[unit * MAX_IMPORTS + k];
        }

        boolean hasImport(int unit, int kind, int what, int name) {
            for (int k = 0; k < sizes[unit]; k++) {
                if (kindAt(unit, k) == kind && whatAt(unit, k) == what && nameAt(unit, k) == name) {
                    return true;
                }
            }
            return false;
        }
    }

    /** What modules use, and what is provided; the provider's module is that of its type. */
    private static final class Services {
        private static final int FIRST_ROOM = 16;

        int size;
        private final long[] used = new long[MAX_MODULES];
        private int[] provided = new int[FIRST_ROOM];
        private int[] places = new int[FIRST_ROOM];

        boolean isUsed(int module, int service) {
            return (used[module] & (1L << service)) != 0;
        }

        void use(int module, int service) {
            used[module] |= 1L << service;
        }

        long usedBy(int set) {
            long all = 0;
            for (int module = 0; module < MAX_MODULES; module++) {
                all |= hasBit(set, module) ? used[module] : 0;
            }
            return all;
        }

        // No pair is kept twice, so that the rows never grow beyond MAX_TYPES times MAX_TYPES.
        void provide(int service, int type) {
            if (size == provided.length) {
                provided = Arrays.copyOf(provided, 2 * size);
                places = Arrays.copyOf(places, 2 * size);
            }
            provided[size] = service;
            places[size] = type;
            size++;
        }

        boolean isProvided(int service, int type) {
            for (int k = 0; k < size; k++) {
                if (provided[k] == service && places[k] == type) {
                    return true;
                }
            }
            return false;
        }

        int serviceAt(int k) {
            return provided[k];
        }

        int typeAt(int k) {
            return places[k];
        }
    }

    /** Layers, each with the set of modules that it has itself, as it was when the layer came. */
    private static final class Layers {
        int size;
        private final int[] parents = new int[MAX_LAYERS];
        private final int[] sets = new int[MAX_LAYERS];

        boolean holds(int layer) {
            return within(layer, size);
        }

        boolean isFull() {
            return size >= MAX_LAYERS;
        }

        int add(int parent, int set) {
            if (isFull()) {
                return FULL;
            }
            parents[size] = parent;
            sets[size] = set;
            return size++;
        }

        int knownTo(int layer) {
            int known = 0;
            int at = layer;
            for (int step = 0; step < MAX_LAYERS && at != NONE; step++) {
                known |= sets[at];
                at = parents[at];
            }
            return known;
        }

        int homeOf(int layer, int module) {
            int at = layer;
            for (int step = 0; step < MAX_LAYERS && at != NONE; step++) {
                if (hasBit(sets[at], module)) {
                    return at;
                }
                at = parents[at];
            }
            return NONE;
        }
    }
}
