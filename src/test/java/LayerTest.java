/** Promises 21 to 23: layers, loaders and what modules find. */
final class LayerTest {
    private static final int NONE = PackageModules.NONE, BAD = PackageModules.BAD;
    private static final int NO = PackageModules.NO, FULL = PackageModules.FULL;
    private static final Due due = new Due("LayerTest");

    public static void main(String[] args) {
        layerWrong();
        layerIsFull();
        layerWithSplit();
        layerLeavesOutWhatParentsHave();
        layerBound();
        layerStaysAsItCame();
        splitOfParentsModule();
        loaders();
        findsWrong();
        findsItsOwn();
        findsWhatItReads();
        findsTheFirst();
        findsAtTheRun();
        findsFromItsHome();
        due.end();
    }

    private static PackageModules withModules(int modules) {
        PackageModules x = new PackageModules();
        for (int k = 0; k < modules; k++) {
            x.module();
        }
        return x;
    }

    private static void layerWrong() {
        PackageModules x = withModules(2);
        due.is("21 parent that is not there", BAD, x.layer(0, 0, false));
        due.is("21 parent below", BAD, x.layer(-2, 0, false));
        due.is("21 root below", BAD, x.layer(NONE, -1, false));
        due.is("21 root above", BAD, x.layer(NONE, 2, false));
        due.is("21 first", 0, x.layer(NONE, 0, false));
        due.is("21 itself as parent", BAD, x.layer(1, 1, false));
        due.is("21 same module again in its child", -12, x.layer(0, 0, false));
        due.is("21 refused", 1, x.count(5));
        due.is("21 same module beside it", 1, x.layer(NONE, 0, false));
    }

    private static void layerIsFull() {
        PackageModules x = withModules(6);
        for (int k = 0; k < 4; k++) {
            due.is("21 layer", k, x.layer(k - 1, k, false));
        }
        due.is("21 full", FULL, x.layer(3, 4, false));
        due.is("21 BAD before FULL", BAD, x.layer(4, 4, false));
        due.is("21 FULL before rules", FULL, x.layer(3, 0, false));
        due.is("21 refused", 4, x.count(5));
        for (int k = 0; k < 4; k++) {
            due.is("22 through all parents", k, x.loader(3, k));
        }
    }

    private static void layerWithSplit() {
        PackageModules x = withModules(3);
        x.pack(0, 5);
        x.pack(1, 5);
        x.type(1, 0, 0, 1, NONE);
        x.exports(1, 0, false);
        x.requires(2, 0, 0);
        x.requires(0, 1, 2);
        due.is("21 root has a split", -11, x.layer(NONE, 0, false));
        due.is("21 one behind the root has a split", -11, x.layer(NONE, 2, false));
        due.is("21 one without", 0, x.layer(NONE, 1, false));
    }

    private static void layerLeavesOutWhatParentsHave() {
        PackageModules x = withModules(4);
        x.requires(0, 1, 0);
        x.requires(1, 2, 0);
        due.is("21 parent", 0, x.layer(NONE, 2, false));
        due.is("21 child", 1, x.layer(0, 1, false));
        due.is("21 child's child", 2, x.layer(1, 0, false));
        due.is("22 left out", 0, x.loader(2, 2));
        due.is("22 nearest parent", 1, x.loader(2, 1));
        due.is("22 itself", 2, x.loader(2, 0));
        due.is("21 all are in parents", -12, x.layer(2, 1, false));
        due.is("21 all are in a parent's parent", -12, x.layer(2, 2, true));
    }

    private static void layerBound() {
        PackageModules x = withModules(3);
        x.pack(0, 0);
        x.type(0, 0, 2, 1, NONE);
        x.exports(0, NONE, false);
        x.requires(1, 0, 0);
        x.pack(1, 1);
        x.type(1, 0, 0, 3, 0);
        x.uses(0, 0);
        x.provides(1, 0, 1);
        due.is("21 not bound", 0, x.layer(NONE, 0, false));
        due.is("22 no provider", NONE, x.loader(0, 1));
        due.is("21 bound in a child", 1, x.layer(0, 0, true));
        due.is("22 provider", 1, x.loader(1, 1));
        due.is("22 root in the parent", 0, x.loader(1, 0));
        due.is("21 bound beside", 2, x.layer(NONE, 0, true));
        due.is("22 both", 2, x.loader(2, 0));
    }

    private static void layerStaysAsItCame() {
        PackageModules x = withModules(2);
        x.layer(NONE, 0, false);
        x.requires(0, 1, 0);
        due.is("21 what came later is not in it", NONE, x.loader(0, 1));
        due.is("21 but in a new one", 1, x.layer(0, 0, false));
        due.is("22 new one", 1, x.loader(1, 1));
    }

    /** The module with a split is in the parent, not in the new layer. */
    private static void splitOfParentsModule() {
        PackageModules x = withModules(3);
        x.requires(0, 1, 0);
        x.requires(2, 0, 0);
        x.pack(0, 5);
        x.pack(1, 5);
        x.type(1, 0, 0, 1, NONE);
        due.is("21 no split yet", 0, x.layer(NONE, 0, false));
        x.exports(1, NONE, false);
        due.is("13 split", 5, x.split(0));
        due.is("21 not in the new layer", 1, x.layer(0, 2, false));
        due.is("21 nothing is new", -12, x.layer(0, 0, false));
        due.is("21 without the parent", -11, x.layer(NONE, 2, false));
    }

    private static void loaders() {
        PackageModules x = withModules(3);
        x.layer(NONE, 0, false);
        x.layer(0, 1, false);
        due.is("22 layer below", BAD, x.loader(-1, 0));
        due.is("22 layer above", BAD, x.loader(2, 0));
        due.is("22 module below", BAD, x.loader(0, -1));
        due.is("22 module above", BAD, x.loader(0, 3));
        due.is("22 not in children", NONE, x.loader(0, 1));
        due.is("22 nowhere", NONE, x.loader(1, 2));
    }

    private static void findsWrong() {
        PackageModules x = withModules(2);
        x.pack(0, 30);
        x.type(0, 30, 0, 0, NONE);
        x.layer(NONE, 0, false);
        due.is("23 layer below", BAD, x.finds(-1, 0, 0, 0));
        due.is("23 layer above", BAD, x.finds(1, 0, 0, 0));
        due.is("23 module below", BAD, x.finds(0, -1, 0, 0));
        due.is("23 module above", BAD, x.finds(0, 2, 0, 0));
        due.is("23 pack's name below", BAD, x.finds(0, 0, -1, 0));
        due.is("23 pack's name above", BAD, x.finds(0, 0, 31, 0));
        due.is("23 name below", BAD, x.finds(0, 0, 0, -1));
        due.is("23 name above", BAD, x.finds(0, 0, 0, 31));
        due.is("23 BAD before NO", BAD, x.finds(0, 1, 0, 31));
        due.is("23 not in the layer", NO, x.finds(0, 1, 0, 0));
        due.is("23 greatest names", 0, x.finds(0, 0, 30, 30));
    }

    private static void findsItsOwn() {
        PackageModules x = withModules(2);
        x.requires(0, 1, 0);
        x.pack(0, 5);
        x.pack(1, 5);
        x.type(0, 1, 0, 0, NONE);
        x.type(1, 2, 0, 1, NONE);
        x.layer(NONE, 0, false);
        x.exports(1, NONE, false);
        due.is("23 its own that is not open", 0, x.finds(0, 0, 5, 1));
        due.is("23 its own pack alone", -12, x.finds(0, 0, 5, 2));
        due.is("23 no such pack", -11, x.finds(0, 0, 6, 1));
    }

    private static void findsWhatItReads() {
        PackageModules x = withModules(4);
        x.requires(0, 1, 0);
        x.requires(1, 2, 1);
        x.requires(1, 3, 0);
        x.pack(1, 1);
        x.pack(2, 2);
        x.pack(3, 3);
        for (int pack = 0; pack < 3; pack++) {
            x.type(pack, 7, 0, 1, NONE);
            x.type(pack, 8, 0, 0, NONE);
        }
        x.layer(NONE, 0, false);
        due.is("23 not exported", -11, x.finds(0, 0, 1, 7));
        x.exports(0, NONE, true);
        due.is("23 opened is not exported", -11, x.finds(0, 0, 1, 7));
        x.exports(0, 2, false);
        due.is("23 exported to another", -11, x.finds(0, 0, 1, 7));
        x.exports(0, 0, false);
        x.exports(1, NONE, false);
        x.exports(2, NONE, false);
        due.is("23 exported to it", 0, x.finds(0, 0, 1, 7));
        due.is("23 through on", 2, x.finds(0, 0, 2, 7));
        due.is("23 in the layer, but not read", -11, x.finds(0, 0, 3, 7));
        due.is("23 not open", -13, x.finds(0, 0, 1, 8));
        due.is("23 no such type", -12, x.finds(0, 0, 1, 9));
        due.is("23 another module of the layer", 4, x.finds(0, 1, 3, 7));
    }

    private static void findsTheFirst() {
        PackageModules x = withModules(4);
        x.requires(3, 2, 0);
        x.requires(3, 1, 0);
        x.requires(3, 0, 0);
        x.pack(2, 5);
        x.pack(1, 5);
        x.pack(0, 5);
        for (int pack = 0; pack < 3; pack++) {
            x.type(pack, 1, 0, 1, NONE);
        }
        x.type(0, 2, 0, 1, NONE);
        x.layer(NONE, 3, false);
        x.exports(0, NONE, false);
        due.is("23 the only one", 0, x.finds(0, 3, 5, 1));
        x.exports(1, NONE, false);
        due.is("23 the first by number", 1, x.finds(0, 3, 5, 1));
        due.is("23 the first alone", -12, x.finds(0, 3, 5, 2));
        x.exports(2, 1, false);
        due.is("23 the first that exports to it", 1, x.finds(0, 3, 5, 1));
        x.exports(2, 3, false);
        due.is("23 module 0", 2, x.finds(0, 3, 5, 1));
    }

    private static void findsAtTheRun() {
        PackageModules x = withModules(2);
        x.requires(0, 1, 2);
        x.pack(1, 5);
        x.type(0, 1, 0, 1, NONE);
        x.exports(0, NONE, false);
        due.is("21 parent", 0, x.layer(NONE, 1, false));
        due.is("21 child", 1, x.layer(0, 0, false));
        due.is("11 seen when compiled", 1, x.sees(0, 0, true));
        due.is("23 static is not read at the run", -11, x.finds(1, 0, 5, 1));
    }

    /** Module 0 is in the parent, which does not have module 1; the child has it. */
    private static void findsFromItsHome() {
        PackageModules x = withModules(3);
        x.pack(1, 5);
        x.type(0, 1, 0, 1, NONE);
        x.exports(0, NONE, false);
        x.layer(NONE, 0, false);
        x.requires(0, 1, 0);
        due.is("21 child has module 1", 1, x.layer(0, 0, false));
        due.is("22 module 1", 1, x.loader(1, 1));
        due.is("22 module 0", 0, x.loader(1, 0));
        due.is("23 the parent does not know module 1", -11, x.finds(1, 0, 5, 1));
        due.is("21 beside", 2, x.layer(NONE, 0, false));
        due.is("23 a layer with both", 0, x.finds(2, 0, 5, 1));
        x.requires(2, 1, 0);
        due.is("21 child of the child", 3, x.layer(1, 2, false));
        due.is("23 from a parent's module", 0, x.finds(3, 2, 5, 1));
    }
}
