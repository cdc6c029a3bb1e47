/** Promises 1 to 5, 14 and 24: what is there, its numbers, and where it is full. */
final class BuildTest {
    private static final int NONE = PackageModules.NONE, BAD = PackageModules.BAD;
    private static final int NO = PackageModules.NO, FULL = PackageModules.FULL;
    private static final Due due = new Due("BuildTest");

    public static void main(String[] args) {
        newObject();
        modules();
        packs();
        packsAreFull();
        types();
        typesAreFull();
        members();
        membersAreFull();
        units();
        counts();
        due.end();
    }

    private static void newObject() {
        PackageModules x = new PackageModules();
        for (int what = 0; what <= 5; what++) {
            due.is("1 count " + what, 0, x.count(what));
        }
        due.is("1 no module", BAD, x.split(0));
        due.is("1 no pack", BAD, x.unit(0));
        due.is("1 no type", BAD, x.member(0, 0, 0, true, NONE));
        due.is("1 no unit", BAD, x.meaning(0, 0));
        due.is("1 no layer", BAD, x.loader(0, 0));
        PackageModules y = new PackageModules();
        y.module();
        due.is("1 objects are apart", 0, x.count(0));
    }

    private static void modules() {
        PackageModules x = new PackageModules();
        for (int k = 0; k < 12; k++) {
            due.is("2 module", k, x.module());
        }
        due.is("2 a thirteenth", FULL, x.module());
        due.is("2 refused", 12, x.count(0));
        due.is("2 the twelfth is there", 1, x.graph(11, false));
        due.is("2 no thirteenth", BAD, x.graph(12, false));
    }

    private static void packs() {
        PackageModules x = new PackageModules();
        x.module();
        x.module();
        due.is("3 first", 0, x.pack(0, 0));
        due.is("3 greatest name", 1, x.pack(0, 30));
        due.is("3 other module, same name", 2, x.pack(1, 0));
        due.is("3 again", NO, x.pack(0, 0));
        due.is("3 name below", BAD, x.pack(0, -1));
        due.is("3 name above", BAD, x.pack(0, 31));
        due.is("3 module below", BAD, x.pack(-1, 0));
        due.is("3 module above", BAD, x.pack(2, 0));
        due.is("3 refused", 3, x.count(1));
    }

    private static void packsAreFull() {
        PackageModules x = new PackageModules();
        x.module();
        x.module();
        for (int k = 0; k < 30; k++) {
            due.is("3 pack", k, x.pack(k % 2, k));
        }
        due.is("3 full", FULL, x.pack(0, 30));
        due.is("3 BAD before FULL", BAD, x.pack(0, 31));
        due.is("3 NO before FULL", NO, x.pack(0, 0));
        due.is("3 full refused", 30, x.count(1));
    }

    private static void types() {
        PackageModules x = new PackageModules();
        x.module();
        x.pack(0, 3);
        x.pack(0, 4);
        due.is("4 first", 0, x.type(0, 0, 0, 0, NONE));
        due.is("4 edges", 1, x.type(0, 30, 3, 3, 0));
        due.is("4 other pack, same name", 2, x.type(1, 0, 2, 1, 1));
        due.is("4 again", NO, x.type(0, 0, 1, 1, NONE));
        due.is("4 pack below", BAD, x.type(-1, 1, 0, 0, NONE));
        due.is("4 pack above", BAD, x.type(2, 1, 0, 0, NONE));
        due.is("4 name below", BAD, x.type(0, -1, 0, 0, NONE));
        due.is("4 name above", BAD, x.type(0, 31, 0, 0, NONE));
        due.is("4 kind below", BAD, x.type(0, 1, -1, 0, NONE));
        due.is("4 kind above", BAD, x.type(0, 1, 4, 0, NONE));
        due.is("4 flags below", BAD, x.type(0, 1, 0, -1, NONE));
        due.is("4 flags above", BAD, x.type(0, 1, 0, 4, NONE));
        due.is("4 parent below", BAD, x.type(0, 1, 0, 0, -2));
        due.is("4 parent is itself", BAD, x.type(0, 1, 0, 0, 3));
        due.is("4 BAD before NO", BAD, x.type(0, 0, 0, 4, NONE));
        due.is("4 refused", 3, x.count(2));
    }

    private static void typesAreFull() {
        PackageModules x = new PackageModules();
        x.module();
        x.pack(0, 0);
        x.pack(0, 1);
        for (int k = 0; k < 40; k++) {
            due.is("4 type", k, x.type(k % 2, k / 2, 0, 3, k - 1));
        }
        due.is("4 full", FULL, x.type(0, 30, 0, 0, NONE));
        due.is("4 NO before FULL", NO, x.type(0, 0, 0, 0, NONE));
        due.is("4 BAD before FULL", BAD, x.type(0, 30, 0, 0, 40));
        due.is("4 full refused", 40, x.count(2));
        due.is("4 the longest line of parents", 1, x.provides(0, 0, 39));
    }

    private static void members() {
        PackageModules x = new PackageModules();
        x.module();
        x.pack(0, 0);
        x.type(0, 0, 0, 3, NONE);
        x.type(0, 1, 0, 3, NONE);
        due.is("5 first", 0, x.member(0, 0, 0, true, NONE));
        due.is("5 same name, other kind", 1, x.member(0, 0, 1, false, 0));
        due.is("5 other type", 2, x.member(1, 0, 1, true, 1));
        due.is("5 greatest name", 3, x.member(0, 30, 1, true, NONE));
        due.is("5 again", NO, x.member(0, 0, 1, true, 1));
        due.is("5 type below", BAD, x.member(-1, 1, 0, true, NONE));
        due.is("5 type above", BAD, x.member(2, 1, 0, true, NONE));
        due.is("5 name below", BAD, x.member(0, -1, 0, true, NONE));
        due.is("5 name above", BAD, x.member(0, 31, 0, true, NONE));
        due.is("5 kind below", BAD, x.member(0, 1, -1, true, NONE));
        due.is("5 kind above", BAD, x.member(0, 1, 2, true, NONE));
        due.is("5 gives below", BAD, x.member(0, 1, 0, true, -2));
        due.is("5 gives above", BAD, x.member(0, 1, 0, true, 2));
        due.is("5 BAD before NO", BAD, x.member(0, 0, 0, true, 2));
        due.is("5 refused", 4, x.count(3));
    }

    private static void membersAreFull() {
        PackageModules x = new PackageModules();
        x.module();
        x.pack(0, 0);
        x.type(0, 0, 0, 3, NONE);
        x.type(0, 1, 0, 3, NONE);
        for (int k = 0; k < 60; k++) {
            due.is("5 member", k, x.member(k % 2, k / 4, k / 2 % 2, true, NONE));
        }
        due.is("5 full", FULL, x.member(0, 30, 0, true, NONE));
        due.is("5 NO before FULL", NO, x.member(0, 0, 0, true, NONE));
        due.is("5 BAD before FULL", BAD, x.member(0, 30, 2, true, NONE));
        due.is("5 full refused", 60, x.count(3));
    }

    private static void units() {
        PackageModules x = new PackageModules();
        x.module();
        x.pack(0, 0);
        x.pack(0, 1);
        due.is("14 pack below", BAD, x.unit(-1));
        due.is("14 pack above", BAD, x.unit(2));
        for (int k = 0; k < 12; k++) {
            due.is("14 unit", k, x.unit(k % 2));
        }
        due.is("14 full", FULL, x.unit(0));
        due.is("14 BAD before FULL", BAD, x.unit(2));
        due.is("14 refused", 12, x.count(4));
        x.type(0, 5, 0, 0, NONE);
        due.is("14 of pack 0", 0, x.meaning(10, 5));
        due.is("14 of pack 1", NONE, x.meaning(11, 5));
    }

    private static void counts() {
        PackageModules x = new PackageModules();
        x.module();
        x.pack(0, 0);
        x.pack(0, 1);
        for (int k = 0; k < 3; k++) {
            x.type(0, k, 0, 3, NONE);
        }
        for (int k = 0; k < 4; k++) {
            x.member(0, k, 0, true, NONE);
        }
        for (int k = 0; k < 5; k++) {
            x.unit(0);
        }
        due.is("21 layer", 0, x.layer(NONE, 0, false));
        x.module();
        x.module();
        x.module();
        x.module();
        x.module();
        due.is("24 modules", 6, x.count(0));
        due.is("24 packs", 2, x.count(1));
        due.is("24 types", 3, x.count(2));
        due.is("24 members", 4, x.count(3));
        due.is("24 units", 5, x.count(4));
        due.is("24 layers", 1, x.count(5));
        due.is("24 below", BAD, x.count(-1));
        due.is("24 above", BAD, x.count(6));
    }
}
