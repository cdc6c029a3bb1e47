/** Calls by name, their arguments as a row of numbers: 1 for true, 0 for false. */
final class Calls {
    private Calls() { }

    static int answer(PackageModules x, String name, int... a) {
        switch (name) {
            case "module": return x.module();
            case "pack": return x.pack(a[0], a[1]);
            case "type": return x.type(a[0], a[1], a[2], a[3], a[4]);
            case "member": return x.member(a[0], a[1], a[2], a[3] == 1, a[4]);
            case "requires": return x.requires(a[0], a[1], a[2]);
            case "exports": return x.exports(a[0], a[1], a[2] == 1);
            case "uses": return x.uses(a[0], a[1]);
            case "provides": return x.provides(a[0], a[1], a[2]);
            case "reads": return x.reads(a[0], a[1], a[2] == 1);
            case "sees": return x.sees(a[0], a[1], a[2] == 1);
            case "looks": return x.looks(a[0], a[1]);
            case "split": return x.split(a[0]);
            case "unit": return x.unit(a[0]);
            case "imports": return x.imports(a[0], a[1], a[2], a[3]);
            case "meaning": return x.meaning(a[0], a[1]);
            case "memberOf": return x.memberOf(a[0], a[1], a[2]);
            case "graph": return x.graph(a[0], a[1] == 1);
            case "has": return x.has(a[0], a[1] == 1, a[2]);
            case "provider": return x.provider(a[0], a[1], a[2]);
            case "layer": return x.layer(a[0], a[1], a[2] == 1);
            case "loader": return x.loader(a[0], a[1]);
            case "finds": return x.finds(a[0], a[1], a[2], a[3]);
            case "count": return x.count(a[0]);
            default: throw new IllegalArgumentException("no call " + name);
        }
    }
}
