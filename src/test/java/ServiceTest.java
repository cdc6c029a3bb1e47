/** Promises 8, 9 and 18 to 20: uses, provides, graphs with providers bound. */
final class ServiceTest {
    private static final int NONE = PackageModules.NONE, BAD = PackageModules.BAD, NO = PackageModules.NO;
    private static final int METHOD = 1;
    private static final Due due = new Due("ServiceTest");

    public static void main(String[] args) {
        uses();
        providesWrong();
        providesRulesInOrder();
        providesOfKinds();
        providesByMember();
        providesByMemberOfAnyKind();
        graph();
        graphBound();
        graphBoundGoesOn();
        graphWrong();
        providers();
        providersWrong();
        manyProviders();
        due.end();
    }

    /** Module 1 has the pack 0 (exported to all) with the open face 0; modules 0 and 2 require it. */
    private static PackageModules withService() {
        PackageModules x = new PackageModules();
        x.module();
        x.module();
        x.module();
        x.module();
        x.requires(0, 1, 0);
        x.requires(2, 1, 0);
        x.pack(1, 0);
        x.type(0, 0, 2, 1, NONE);
        x.exports(0, NONE, false);
        return x;
    }

    private static void uses() {
        PackageModules x = withService();
        due.is("8 module below", BAD, x.uses(-1, 0));
        due.is("8 module above", BAD, x.uses(4, 0));
        due.is("8 service below", BAD, x.uses(0, -1));
        due.is("8 service above", BAD, x.uses(0, 1));
        due.is("8 seen", 1, x.uses(0, 0));
        due.is("8 already", -18, x.uses(0, 0));
        due.is("8 not read", -11, x.uses(3, 0));
        due.is("8 its own", 1, x.uses(1, 0));
        x.type(0, 1, 0, 0, NONE);
        due.is("8 not open", -11, x.uses(0, 1));
        due.is("8 not open, its own", 1, x.uses(1, 1));
        due.is("8 the first still stands", -18, x.uses(1, 0));
        due.is("8 the second, too", -18, x.uses(1, 1));
    }

    private static void providesWrong() {
        PackageModules x = withService();
        due.is("9 module below", BAD, x.provides(-1, 0, 0));
        due.is("9 module above", BAD, x.provides(4, 0, 0));
        due.is("9 service below", BAD, x.provides(1, -1, 0));
        due.is("9 service above", BAD, x.provides(1, 1, 0));
        due.is("9 type below", BAD, x.provides(1, 0, -1));
        due.is("9 type above", BAD, x.provides(1, 0, 1));
    }

    private static void providesRulesInOrder() {
        PackageModules x = withService();
        x.pack(3, 1);
        x.pack(2, 1);
        x.type(2, 0, 1, 0, NONE);
        x.type(2, 1, 1, 1, NONE);
        x.type(2, 2, 0, 1, NONE);
        x.type(2, 3, 0, 3, NONE);
        x.type(2, 4, 0, 3, 0);
        due.is("9 unseen service first", -11, x.provides(3, 0, 1));
        due.is("9 type of another", -12, x.provides(0, 0, 1));
        due.is("9 type of the service's module", -12, x.provides(2, 0, 0));
        due.is("9 not open", -13, x.provides(2, 0, 1));
        due.is("9 abstract", -15, x.provides(2, 0, 2));
        due.is("9 no maker", -16, x.provides(2, 0, 3));
        due.is("9 no subtype", -17, x.provides(2, 0, 4));
        due.is("9 as told", 1, x.provides(2, 0, 5));
        due.is("9 already", -18, x.provides(2, 0, 5));
        due.is("9 itself as the service", 1, x.provides(2, 5, 5));
        due.is("9 the child's service by its parent", -17, x.provides(2, 5, 4));
    }

    private static void providesOfKinds() {
        PackageModules x = withService();
        x.pack(2, 1);
        x.type(1, 0, 1, 3, 0);
        x.type(1, 1, 2, 3, 0);
        x.type(1, 2, 3, 3, 0);
        x.type(1, 3, 0, 3, 3);
        due.is("9 abstract", -15, x.provides(2, 0, 1));
        due.is("9 face", -15, x.provides(2, 0, 2));
        due.is("9 inner", -15, x.provides(2, 0, 3));
        due.is("9 class with a grandparent", 1, x.provides(2, 0, 4));
    }

    private static void providesByMember() {
        PackageModules x = withService();
        x.pack(2, 1);
        x.type(1, 0, 0, 3, 0);
        x.type(1, 1, 0, 3, NONE);
        x.member(1, 0, METHOD, true, 2);
        due.is("9 gives no subtype, though it is one", -14, x.provides(2, 0, 1));
        x.member(2, 0, METHOD, false, 1);
        due.is("9 not open member does not count", -17, x.provides(2, 0, 2));
        x.type(1, 2, 0, 3, 1);
        due.is("9 a parent's member does not count", 1, x.provides(2, 0, 3));
        x.type(1, 3, 0, 3, NONE);
        x.member(4, 0, METHOD, true, NONE);
        due.is("9 gives nothing", -14, x.provides(2, 0, 4));
        x.type(1, 4, 0, 3, NONE);
        x.member(5, 0, 0, true, 0);
        x.member(5, 1, METHOD, true, 0);
        due.is("9 a field, a method of another name", -17, x.provides(2, 0, 5));
        x.type(1, 5, 0, 0, NONE);
        x.member(6, 0, METHOD, true, 2);
        due.is("9 not open before the member", -13, x.provides(2, 0, 6));
    }

    private static void providesByMemberOfAnyKind() {
        PackageModules x = withService();
        x.pack(2, 1);
        for (int kind = 0; kind < 4; kind++) {
            x.type(1, kind, kind, 1, NONE);
            x.member(kind + 1, 0, METHOD, true, 0);
            due.is("9 gives the service, kind " + kind, 1, x.provides(2, 0, kind + 1));
            due.is("9 already, kind " + kind, -18, x.provides(2, 0, kind + 1));
        }
        x.type(1, 10, 0, 0, 0);
        x.type(1, 11, 2, 1, NONE);
        x.member(6, 0, METHOD, true, 5);
        due.is("9 gives a subtype", 1, x.provides(2, 0, 6));
    }

    private static void graph() {
        PackageModules x = new PackageModules();
        for (int k = 0; k < 6; k++) {
            x.module();
        }
        x.requires(0, 1, 0);
        x.requires(1, 2, 0);
        x.requires(0, 3, 2);
        x.requires(1, 4, 3);
        x.requires(3, 5, 0);
        due.is("18 plain ones go on", 3, x.graph(0, false));
        due.is("18 bound without uses", 3, x.graph(0, true));
        due.is("18 alone", 1, x.graph(5, false));
        due.is("19 root", 1, x.has(0, false, 0));
        due.is("19 plain behind plain", 1, x.has(0, false, 2));
        due.is("19 static", 0, x.has(0, false, 3));
        due.is("19 static and on", 0, x.has(0, false, 4));
        due.is("19 behind static", 0, x.has(0, false, 5));
        due.is("19 not backwards", 0, x.has(1, false, 0));
        x.requires(2, 3, 1);
        due.is("18 by another way", 5, x.graph(0, false));
    }

    private static void graphBound() {
        PackageModules x = withService();
        x.pack(2, 1);
        x.type(1, 0, 0, 3, 0);
        x.provides(2, 0, 1);
        due.is("18 not used", 2, x.graph(0, true));
        x.uses(0, 0);
        due.is("18 bound", 3, x.graph(0, true));
        due.is("18 not bound", 2, x.graph(0, false));
        due.is("19 bound", 1, x.has(0, true, 2));
        due.is("19 not bound", 0, x.has(0, false, 2));
        due.is("19 not at all", 0, x.has(0, true, 3));
        due.is("18 of one that does not use", 1, x.graph(1, true));
    }

    /** 0 uses what 4 provides; 4 requires 3, which uses what 2 provides; 2 requires 1 alone. */
    private static void graphBoundGoesOn() {
        PackageModules x = new PackageModules();
        for (int k = 0; k < 6; k++) {
            x.module();
            x.pack(k, k);
        }
        x.type(5, 0, 2, 1, NONE);
        x.type(5, 1, 2, 1, NONE);
        x.exports(5, NONE, false);
        x.type(4, 0, 0, 3, 0);
        x.type(2, 0, 0, 3, 1);
        x.requires(0, 5, 2);
        x.requires(4, 5, 2);
        x.requires(3, 5, 2);
        x.requires(2, 5, 2);
        x.requires(4, 3, 0);
        x.requires(2, 1, 0);
        due.is("8 first", 1, x.uses(0, 0));
        due.is("8 second", 1, x.uses(3, 1));
        due.is("9 second", 1, x.provides(2, 1, 3));
        due.is("18 none provides yet", 1, x.graph(0, true));
        due.is("9 first", 1, x.provides(4, 0, 2));
        due.is("18 on and on", 5, x.graph(0, true));
        due.is("19 the service's module is required static", 0, x.has(0, true, 5));
        due.is("19 last", 1, x.has(0, true, 1));
        due.is("18 not bound", 1, x.graph(0, false));
    }

    private static void graphWrong() {
        PackageModules x = withService();
        due.is("18 below", BAD, x.graph(-1, true));
        due.is("18 above", BAD, x.graph(4, false));
        due.is("19 root below", BAD, x.has(-1, true, 0));
        due.is("19 root above", BAD, x.has(4, true, 0));
        due.is("19 module below", BAD, x.has(0, true, -1));
        due.is("19 module above", BAD, x.has(0, true, 4));
    }

    private static void providers() {
        PackageModules x = withService();
        x.requires(3, 1, 0);
        x.pack(3, 0);
        x.pack(2, 1);
        x.type(1, 0, 0, 3, 0);
        x.type(1, 1, 0, 3, 0);
        x.type(2, 0, 0, 3, 0);
        x.type(2, 1, 0, 3, 0);
        x.type(0, 1, 2, 1, NONE);
        x.uses(0, 0);
        due.is("20 none", NONE, x.provider(0, 0, 0));
        x.provides(3, 0, 2);
        x.provides(2, 0, 4);
        x.provides(3, 0, 1);
        x.provides(2, 0, 3);
        x.provides(2, 3, 3);
        int[] inOrder = {4, 3, 2, 1, NONE};
        for (int k = 0; k < inOrder.length; k++) {
            due.is("20 provider " + k, inOrder[k], x.provider(0, 0, k));
        }
        due.is("20 far above", NONE, x.provider(0, 0, Integer.MAX_VALUE));
        due.is("20 below", NONE, x.provider(0, 0, -1));
        due.is("20 far below", NONE, x.provider(0, 0, Integer.MIN_VALUE));
        x.uses(0, 5);
        due.is("20 of a service that none provides", NONE, x.provider(0, 5, 0));
    }

    private static void providersWrong() {
        PackageModules x = withService();
        due.is("20 root below", BAD, x.provider(-1, 0, 0));
        due.is("20 root above", BAD, x.provider(4, 0, 0));
        due.is("20 service below", BAD, x.provider(0, -1, 0));
        due.is("20 service above", BAD, x.provider(0, 1, 0));
        due.is("20 not used", NO, x.provider(0, 0, 0));
        due.is("20 not used, k below 0", NO, x.provider(0, 0, -1));
        x.uses(1, 0);
        due.is("20 used by another in the graph alone", NO, x.provider(0, 0, 0));
    }

    /** More providers than the first rows have room for. */
    private static void manyProviders() {
        PackageModules x = new PackageModules();
        x.module();
        x.pack(0, 0);
        x.pack(0, 1);
        for (int k = 0; k < 20; k++) {
            x.type(0, k, 0, 3, k - 1);
        }
        int told = 0;
        for (int service = 0; service < 20; service++) {
            for (int type = 19; type >= service; type--) {
                due.is("9 pair", 1, x.provides(0, service, type));
                told++;
            }
        }
        due.is("9 all pairs", 210, told);
        due.is("9 the first already", -18, x.provides(0, 0, 19));
        due.is("9 the last already", -18, x.provides(0, 19, 19));
        x.uses(0, 5);
        for (int k = 0; k < 15; k++) {
            due.is("20 many", 19 - k, x.provider(0, 5, k));
        }
        due.is("20 no more", NONE, x.provider(0, 5, 15));
    }
}
