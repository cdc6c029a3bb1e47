import java.util.ArrayList;
import java.util.HashSet;
import java.util.LinkedHashSet;
import java.util.List;
import java.util.Set;
import java.util.TreeSet;

/** The document told a second time, with lists and sets of the library and by recursion. */
final class PlainModel {
    record Pack(int module, int name) { }

    record Type(int pack, int name, int kind, int flags, int parent) { }

    record Member(int type, int name, int kind, boolean open, int gives) { }

    record Require(int module, int other, boolean on, boolean fixed) { }

    record Export(int pack, int to, boolean looks) { }

    record Use(int module, int service) { }

    record Provide(int module, int service, int type) { }

    record Import(int kind, int what, int name) { }

    record Unit(int pack, List<Import> imports) { }

    record Layer(int parent, Set<Integer> modules) { }

    int modules = 0;
    final List<Pack> packs = new ArrayList<>();
    final List<Type> types = new ArrayList<>();
    final List<Member> members = new ArrayList<>();
    final List<Require> requires = new ArrayList<>();
    final Set<Export> exports = new HashSet<>();
    final Set<Use> uses = new LinkedHashSet<>();
    final Set<Provide> provides = new LinkedHashSet<>();
    final List<Unit> units = new ArrayList<>();
    final List<Layer> layers = new ArrayList<>();

    int module() {
        return modules == 12 ? -4 : modules++;
    }

    int pack(int module, int name) {
        if (noModule(module) || noName(name)) return -2;
        if (packs.contains(new Pack(module, name))) return -3;
        return put(packs, new Pack(module, name), 30);
    }

    int type(int pack, int name, int kind, int flags, int parent) {
        if (no(pack, packs) || noName(name) || kind < 0 || kind > 3 || flags < 0 || flags > 3) return -2;
        if (parent != -1 && no(parent, types)) return -2;
        if (typeIn(pack, name) != -1) return -3;
        return put(types, new Type(pack, name, kind, flags, parent), 40);
    }

    int member(int type, int name, int kind, boolean open, int gives) {
        if (no(type, types) || noName(name) || kind < 0 || kind > 1) return -2;
        if (gives != -1 && no(gives, types)) return -2;
        for (Member m : members) if (m.type == type && m.name == name && m.kind == kind) return -3;
        return put(members, new Member(type, name, kind, open, gives), 60);
    }

    int requires(int module, int other, int how) {
        if (noModule(module) || noModule(other) || how < 0 || how > 3) return -2;
        if (comesTo(other, module)) return -11;
        for (Require r : requires) if (r.module == module && r.other == other) return -12;
        requires.add(new Require(module, other, how % 2 == 1, how >= 2));
        return 1;
    }

    int exports(int pack, int to, boolean looks) {
        if (no(pack, packs) || (to != -1 && noModule(to))) return -2;
        if (!looks && types.stream().noneMatch(t -> t.pack == pack)) return -11;
        if (exports.contains(new Export(pack, to, looks))) return -12;
        if (packs.get(pack).module == to) return -13;
        exports.add(new Export(pack, to, looks));
        return 1;
    }

    int uses(int module, int service) {
        if (noModule(module) || no(service, types)) return -2;
        if (!seesType(module, service)) return -11;
        return uses.add(new Use(module, service)) ? 1 : -18;
    }

    int provides(int module, int service, int type) {
        if (noModule(module) || no(service, types) || no(type, types)) return -2;
        if (!seesType(module, service)) return -11;
        if (moduleOfType(type) != module) return -12;
        Type t = types.get(type);
        if (t.flags % 2 == 0) return -13;
        Member giver = null;
        for (Member m : members) {
            if (m.type == type && m.name == 0 && m.kind == 1 && m.open && giver == null) giver = m;
        }
        if (giver != null) {
            if (giver.gives == -1 || !supers(giver.gives).contains(service)) return -14;
        } else {
            if (t.kind != 0) return -15;
            if (t.flags < 2) return -16;
            if (!supers(type).contains(service)) return -17;
        }
        return provides.add(new Provide(module, service, type)) ? 1 : -18;
    }

    int reads(int module, int other, boolean run) {
        if (noModule(module) || noModule(other)) return -2;
        return readable(module, run).contains(other) ? 1 : 0;
    }

    int sees(int module, int k, boolean type) {
        if (noModule(module) || no(k, type ? types : packs)) return -2;
        return (type ? seesType(module, k) : seesPack(module, k)) ? 1 : 0;
    }

    int looks(int module, int pack) {
        if (noModule(module) || no(pack, packs)) return -2;
        return packs.get(pack).module == module || told(pack, module, true) ? 1 : 0;
    }

    int split(int module) {
        return noModule(module) ? -2 : splits(module).stream().findFirst().orElse(-1);
    }

    int unit(int pack) {
        return no(pack, packs) ? -2 : put(units, new Unit(pack, new ArrayList<>()), 12);
    }

    int imports(int unit, int kind, int what, int name) {
        if (no(unit, units) || kind < 0 || kind > 3) return -2;
        if (kind == 1 ? noName(what) : no(what, types)) return -2;
        if (kind == 2 ? noName(name) : name != 0) return -2;
        List<Import> own = units.get(unit).imports;
        if (own.size() == 10) return -4;
        int module = moduleOfUnit(unit);
        if (kind == 1) {
            boolean any = false;
            for (int p = 0; p < packs.size(); p++) any |= packs.get(p).name == what && seesPack(module, p);
            if (!any) return -11;
        } else if (!seesType(module, what)) {
            return -11;
        }
        if (kind == 0) {
            for (Import i : own) {
                if (i.kind == 0 && i.what != what && types.get(i.what).name == types.get(what).name) return -12;
            }
        }
        if (kind == 2 && usable(unit, what, name, 0) == -1 && usable(unit, what, name, 1) == -1) return -12;
        Import it = new Import(kind, what, name);
        if (own.contains(it)) return -13;
        own.add(it);
        return own.size();
    }

    int meaning(int unit, int name) {
        if (no(unit, units) || noName(name)) return -2;
        Unit u = units.get(unit);
        for (Import i : u.imports) if (i.kind == 0 && types.get(i.what).name == name) return i.what;
        if (typeIn(u.pack, name) != -1) return typeIn(u.pack, name);
        Set<Integer> found = new TreeSet<>();
        for (Import i : u.imports) {
            for (int t = 0; i.kind == 1 && t < types.size(); t++) {
                boolean fits = types.get(t).name == name && packs.get(types.get(t).pack).name == i.what;
                if (fits && seesType(moduleOfUnit(unit), t)) found.add(t);
            }
        }
        return one(found);
    }

    int memberOf(int unit, int name, int kind) {
        if (no(unit, units) || noName(name) || kind < 0 || kind > 1) return -2;
        for (int importKind = 2; importKind <= 3; importKind++) {
            Set<Integer> found = new LinkedHashSet<>();
            for (Import i : units.get(unit).imports) {
                if (i.kind == importKind && (importKind == 3 || i.name == name)) {
                    found.add(usable(unit, i.what, name, kind));
                }
            }
            found.remove(-1);
            if (!found.isEmpty()) return kind == 1 ? found.iterator().next() : one(found);
        }
        return -1;
    }

    int graph(int root, boolean bound) {
        return noModule(root) ? -2 : graphOf(root, bound).size();
    }

    int has(int root, boolean bound, int module) {
        if (noModule(root) || noModule(module)) return -2;
        return graphOf(root, bound).contains(module) ? 1 : 0;
    }

    int provider(int root, int service, int k) {
        if (noModule(root) || no(service, types)) return -2;
        if (!uses.contains(new Use(root, service))) return -3;
        List<Integer> found = new ArrayList<>();
        for (int module : graphOf(root, true)) {
            for (Provide p : provides) if (p.module == module && p.service == service) found.add(p.type);
        }
        return k < 0 || k >= found.size() ? -1 : found.get(k);
    }

    int layer(int parent, int root, boolean bound) {
        if ((parent != -1 && no(parent, layers)) || noModule(root)) return -2;
        if (layers.size() == 4) return -4;
        Set<Integer> own = graphOf(root, bound);
        own.removeAll(known(parent));
        for (int module : own) if (!splits(module).isEmpty()) return -11;
        if (own.isEmpty()) return -12;
        return put(layers, new Layer(parent, own), 4);
    }

    int loader(int layer, int module) {
        return no(layer, layers) || noModule(module) ? -2 : home(layer, module);
    }

    int finds(int layer, int module, int packName, int name) {
        if (no(layer, layers) || noModule(module) || noName(packName) || noName(name)) return -2;
        if (!known(layer).contains(module)) return -3;
        int pack = packs.indexOf(new Pack(module, packName));
        Set<Integer> others = new TreeSet<>(readable(module, true));
        others.retainAll(known(home(layer, module)));
        for (int other : others) {
            int theirs = packs.indexOf(new Pack(other, packName));
            if (pack == -1 && theirs != -1 && told(theirs, module, false)) pack = theirs;
        }
        if (pack == -1) return -11;
        int type = typeIn(pack, name);
        if (type == -1) return -12;
        return types.get(type).flags % 2 == 1 || moduleOfType(type) == module ? type : -13;
    }

    int count(int what) {
        int[] all = {modules, packs.size(), types.size(), members.size(), units.size(), layers.size()};
        return what < 0 || what > 5 ? -2 : all[what];
    }

    private static <T> int put(List<T> list, T it, int most) {
        if (list.size() == most) return -4;
        list.add(it);
        return list.size() - 1;
    }

    private static int one(Set<Integer> found) {
        return found.isEmpty() ? -1 : found.size() > 1 ? -5 : found.iterator().next();
    }

    private boolean noModule(int module) {
        return module < 0 || module >= modules;
    }

    private static boolean noName(int name) {
        return name < 0 || name > 30;
    }

    private static boolean no(int k, List<?> list) {
        return k < 0 || k >= list.size();
    }

    private int typeIn(int pack, int name) {
        for (int t = 0; t < types.size(); t++) {
            if (types.get(t).pack == pack && types.get(t).name == name) return t;
        }
        return -1;
    }

    private int moduleOfType(int type) {
        return packs.get(types.get(type).pack).module;
    }

    private int moduleOfUnit(int unit) {
        return packs.get(units.get(unit).pack).module;
    }

    private List<Integer> supers(int type) {
        List<Integer> line = new ArrayList<>();
        for (int t = type; t != -1; t = types.get(t).parent) line.add(t);
        return line;
    }

    private boolean comesTo(int from, int to) {
        if (from == to) return true;
        for (Require r : requires) if (r.module == from && comesTo(r.other, to)) return true;
        return false;
    }

    private Set<Integer> readable(int module, boolean run) {
        Set<Integer> found = new TreeSet<>();
        found.add(module);
        for (Require r : requires) {
            if (r.module == module && !(run && r.fixed)) followOn(r.other, run, found);
        }
        return found;
    }

    private void followOn(int module, boolean run, Set<Integer> found) {
        found.add(module);
        for (Require r : requires) {
            if (r.module == module && r.on && !(run && r.fixed)) followOn(r.other, run, found);
        }
    }

    private boolean told(int pack, int module, boolean looks) {
        return exports.contains(new Export(pack, -1, looks)) || exports.contains(new Export(pack, module, looks));
    }

    private boolean seesPack(int module, int pack) {
        int owner = packs.get(pack).module;
        return owner == module || (readable(module, false).contains(owner) && told(pack, module, false));
    }

    private boolean seesType(int module, int type) {
        boolean own = moduleOfType(type) == module;
        return seesPack(module, types.get(type).pack) && (own || types.get(type).flags % 2 == 1);
    }

    private Set<Integer> splits(int module) {
        Set<Integer> seen = new HashSet<>();
        Set<Integer> twice = new TreeSet<>();
        for (int p = 0; p < packs.size(); p++) {
            if (seesPack(module, p) && !seen.add(packs.get(p).name)) twice.add(packs.get(p).name);
        }
        return twice;
    }

    private int usable(int unit, int type, int name, int kind) {
        for (int t : supers(type)) {
            for (int m = 0; m < members.size(); m++) {
                Member it = members.get(m);
                if (it.type == t && it.name == name && it.kind == kind) {
                    return it.open || moduleOfType(t) == moduleOfUnit(unit) ? m : -1;
                }
            }
        }
        return -1;
    }

    private Set<Integer> graphOf(int root, boolean bound) {
        Set<Integer> found = new TreeSet<>();
        addToGraph(root, bound, found);
        return found;
    }

    private void addToGraph(int module, boolean bound, Set<Integer> found) {
        if (!found.add(module)) return;
        for (Require r : requires) if (r.module == module && !r.fixed) addToGraph(r.other, bound, found);
        for (Provide p : provides) {
            if (bound && uses.contains(new Use(module, p.service))) addToGraph(p.module, bound, found);
        }
    }

    private Set<Integer> known(int layer) {
        Set<Integer> found = new TreeSet<>();
        for (int at = layer; at != -1; at = layers.get(at).parent) found.addAll(layers.get(at).modules);
        return found;
    }

    private int home(int layer, int module) {
        for (int at = layer; at != -1; at = layers.get(at).parent) {
            if (layers.get(at).modules.contains(module)) return at;
        }
        return -1;
    }
}
