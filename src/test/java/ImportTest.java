/** Promises 15 to 17: imports of four kinds, what names and members mean. */
final class ImportTest {
    private static final int NONE = PackageModules.NONE, BAD = PackageModules.BAD;
    private static final int FULL = PackageModules.FULL, TWO = PackageModules.TWO;
    private static final int TYPE = 0, PACK = 1, MEMBER = 2, MEMBERS = 3;
    private static final int FIELD = 0, METHOD = 1;
    private static final Due due = new Due("ImportTest");

    public static void main(String[] args) {
        importsWrong();
        importsRuleOne();
        importsOfWhatIsCompiled();
        importsRuleTwo();
        importsRuleTwoOfMembers();
        importsRuleThree();
        importsAreFull();
        meaningInOrder();
        meaningOfTwo();
        meaningGrows();
        memberUsable();
        memberHidden();
        memberFarAbove();
        memberInOrder();
        memberOfTwoFields();
        memberKindsAreApart();
        memberWrong();
        due.end();
    }

    /** Module 0 reads module 1; pack 0 (name 0) is of 0, packs 1 (name 1) and 2 (name 2) are of 1. */
    private static PackageModules twoModules() {
        PackageModules x = new PackageModules();
        x.module();
        x.module();
        x.requires(0, 1, 0);
        x.pack(0, 0);
        x.pack(1, 1);
        x.pack(1, 2);
        x.unit(0);
        return x;
    }

    private static void importsWrong() {
        PackageModules x = twoModules();
        x.type(0, 5, 0, 0, NONE);
        x.member(0, 0, FIELD, false, NONE);
        due.is("15 unit below", BAD, x.imports(-1, TYPE, 0, 0));
        due.is("15 unit above", BAD, x.imports(1, TYPE, 0, 0));
        due.is("15 kind below", BAD, x.imports(0, -1, 0, 0));
        due.is("15 kind above", BAD, x.imports(0, 4, 0, 0));
        due.is("15 type below", BAD, x.imports(0, TYPE, -1, 0));
        due.is("15 type above", BAD, x.imports(0, TYPE, 1, 0));
        due.is("15 type of members below", BAD, x.imports(0, MEMBER, -1, 0));
        due.is("15 type of members above", BAD, x.imports(0, MEMBER, 1, 0));
        due.is("15 type of all members above", BAD, x.imports(0, MEMBERS, 1, 0));
        due.is("15 name of pack below", BAD, x.imports(0, PACK, -1, 0));
        due.is("15 name of pack above", BAD, x.imports(0, PACK, 31, 0));
        due.is("15 name of member below", BAD, x.imports(0, MEMBER, 0, -1));
        due.is("15 name of member above", BAD, x.imports(0, MEMBER, 0, 31));
        due.is("15 name with type", BAD, x.imports(0, TYPE, 0, 1));
        due.is("15 name with pack", BAD, x.imports(0, PACK, 0, 1));
        due.is("15 name with all members", BAD, x.imports(0, MEMBERS, 0, 1));
        due.is("15 refused, first", 1, x.imports(0, TYPE, 0, 0));
        due.is("15 pack's name, not its number", 2, x.imports(0, PACK, 0, 0));
        due.is("15 third", 3, x.imports(0, MEMBER, 0, 0));
        due.is("15 fourth", 4, x.imports(0, MEMBERS, 0, 0));
    }

    private static void importsRuleOne() {
        PackageModules x = twoModules();
        x.type(1, 0, 0, 1, NONE);
        x.type(1, 1, 0, 0, NONE);
        x.member(0, 3, FIELD, true, NONE);
        x.member(1, 3, FIELD, true, NONE);
        due.is("15 unseen type", -11, x.imports(0, TYPE, 0, 0));
        due.is("15 unseen type of member", -11, x.imports(0, MEMBER, 0, 3));
        due.is("15 unseen type of all members", -11, x.imports(0, MEMBERS, 0, 0));
        due.is("15 unseen before no member", -11, x.imports(0, MEMBER, 0, 4));
        due.is("15 unseen pack", -11, x.imports(0, PACK, 1, 0));
        due.is("15 no such pack", -11, x.imports(0, PACK, 30, 0));
        x.exports(1, NONE, false);
        due.is("15 seen type", 1, x.imports(0, TYPE, 0, 0));
        due.is("15 seen member", 2, x.imports(0, MEMBER, 0, 3));
        due.is("15 seen members", 3, x.imports(0, MEMBERS, 0, 0));
        due.is("15 seen pack", 4, x.imports(0, PACK, 1, 0));
        due.is("15 not open type", -11, x.imports(0, TYPE, 1, 0));
        due.is("15 not open type of member", -11, x.imports(0, MEMBER, 1, 3));
        due.is("15 its own pack without types", 5, x.imports(0, PACK, 0, 0));
    }

    private static void importsRuleTwo() {
        PackageModules x = twoModules();
        x.type(1, 7, 0, 1, NONE);
        x.type(2, 7, 0, 1, NONE);
        x.type(2, 8, 0, 1, NONE);
        x.exports(1, NONE, false);
        x.exports(2, NONE, false);
        x.unit(0);
        due.is("15 type", 1, x.imports(0, TYPE, 0, 0));
        due.is("15 another of this name", -12, x.imports(0, TYPE, 1, 0));
        due.is("15 another name", 2, x.imports(0, TYPE, 2, 0));
        due.is("15 another unit", 1, x.imports(1, TYPE, 1, 0));
        due.is("15 kind 3 is not so", 3, x.imports(0, MEMBERS, 1, 0));
        due.is("16 the first stands", 0, x.meaning(0, 7));
    }

    private static void importsRuleTwoOfMembers() {
        PackageModules x = twoModules();
        x.type(1, 0, 0, 1, NONE);
        x.type(1, 1, 0, 1, 0);
        x.exports(1, NONE, false);
        x.unit(1);
        x.member(0, 1, FIELD, true, NONE);
        x.member(0, 2, METHOD, true, NONE);
        x.member(0, 3, FIELD, false, NONE);
        x.member(1, 1, FIELD, false, NONE);
        due.is("15 no member", -12, x.imports(0, MEMBER, 0, 4));
        due.is("15 member that is not open", -12, x.imports(0, MEMBER, 0, 3));
        due.is("15 not open, in its own module", 1, x.imports(1, MEMBER, 0, 3));
        due.is("15 field", 1, x.imports(0, MEMBER, 0, 1));
        due.is("15 method", 2, x.imports(0, MEMBER, 0, 2));
        due.is("15 parent's method", 3, x.imports(0, MEMBER, 1, 2));
        due.is("15 parent's field behind one not usable", -12, x.imports(0, MEMBER, 1, 1));
        x.member(1, 1, METHOD, true, NONE);
        due.is("15 a method of that name", 4, x.imports(0, MEMBER, 1, 1));
    }

    private static void importsRuleThree() {
        PackageModules x = twoModules();
        x.type(0, 0, 0, 1, NONE);
        x.type(0, 1, 0, 1, NONE);
        x.member(0, 0, FIELD, true, NONE);
        x.member(0, 1, FIELD, true, NONE);
        x.member(1, 0, FIELD, true, NONE);
        due.is("15 type", 1, x.imports(0, TYPE, 0, 0));
        due.is("15 same type", -13, x.imports(0, TYPE, 0, 0));
        due.is("15 pack", 2, x.imports(0, PACK, 0, 0));
        due.is("15 same pack", -13, x.imports(0, PACK, 0, 0));
        due.is("15 member", 3, x.imports(0, MEMBER, 0, 0));
        due.is("15 same member", -13, x.imports(0, MEMBER, 0, 0));
        due.is("15 other name", 4, x.imports(0, MEMBER, 0, 1));
        due.is("15 other type", 5, x.imports(0, MEMBER, 1, 0));
        due.is("15 members", 6, x.imports(0, MEMBERS, 0, 0));
        due.is("15 same members", -13, x.imports(0, MEMBERS, 0, 0));
        due.is("15 other members", 7, x.imports(0, MEMBERS, 1, 0));
    }

    private static void importsAreFull() {
        PackageModules x = twoModules();
        x.unit(0);
        for (int k = 0; k < 11; k++) {
            x.type(0, k, 0, 1, NONE);
        }
        for (int k = 0; k < 10; k++) {
            due.is("15 import", k + 1, x.imports(0, TYPE, k, 0));
        }
        due.is("15 full", FULL, x.imports(0, TYPE, 10, 0));
        due.is("15 FULL before rules", FULL, x.imports(0, TYPE, 0, 0));
        due.is("15 BAD before FULL", BAD, x.imports(0, TYPE, 11, 0));
        due.is("15 the other unit is not full", 1, x.imports(1, TYPE, 10, 0));
        due.is("15 the other unit has its own", 2, x.imports(1, TYPE, 0, 0));
        due.is("16 the tenth", 9, x.meaning(0, 9));
    }

    private static void meaningInOrder() {
        PackageModules x = twoModules();
        due.is("16 unit below", BAD, x.meaning(-1, 0));
        due.is("16 unit above", BAD, x.meaning(1, 0));
        due.is("16 name below", BAD, x.meaning(0, -1));
        due.is("16 name above", BAD, x.meaning(0, 31));
        x.type(1, 4, 0, 1, NONE);
        x.type(2, 4, 0, 1, NONE);
        x.exports(1, NONE, false);
        x.exports(2, NONE, false);
        due.is("16 nothing", NONE, x.meaning(0, 4));
        x.imports(0, PACK, 1, 0);
        due.is("16 of all of a pack", 0, x.meaning(0, 4));
        x.type(0, 4, 0, 0, NONE);
        due.is("16 its own pack before", 2, x.meaning(0, 4));
        x.imports(0, TYPE, 1, 0);
        due.is("16 the type imported before", 1, x.meaning(0, 4));
        due.is("16 other name", NONE, x.meaning(0, 5));
        x.pack(0, 9);
        x.type(3, 5, 0, 3, NONE);
        due.is("16 not another pack of its module", NONE, x.meaning(0, 5));
        x.imports(0, PACK, 9, 0);
        due.is("16 another pack of its module", 3, x.meaning(0, 5));
    }

    private static void meaningOfTwo() {
        PackageModules x = twoModules();
        x.pack(0, 9);
        x.type(1, 4, 0, 1, NONE);
        x.type(2, 4, 0, 1, NONE);
        x.type(3, 4, 0, 0, NONE);
        x.exports(1, NONE, false);
        x.exports(2, NONE, false);
        x.imports(0, PACK, 1, 0);
        due.is("16 one", 0, x.meaning(0, 4));
        x.imports(0, PACK, 2, 0);
        due.is("16 two", TWO, x.meaning(0, 4));
        x.imports(0, PACK, 9, 0);
        due.is("16 three", TWO, x.meaning(0, 4));
        x.imports(0, TYPE, 2, 0);
        due.is("16 told", 2, x.meaning(0, 4));
    }

    private static void meaningGrows() {
        PackageModules x = twoModules();
        x.module();
        x.requires(0, 2, 2);
        x.pack(2, 1);
        x.type(1, 4, 0, 1, NONE);
        x.type(3, 4, 0, 0, NONE);
        x.exports(1, NONE, false);
        x.imports(0, PACK, 1, 0);
        due.is("16 one of the name", 0, x.meaning(0, 4));
        x.exports(3, NONE, false);
        due.is("16 what is not open is not seen", 0, x.meaning(0, 4));
        x.type(3, 5, 0, 1, NONE);
        due.is("16 a type that came later", 2, x.meaning(0, 5));
        x.type(1, 5, 0, 1, NONE);
        due.is("16 two packs of one name", TWO, x.meaning(0, 5));
    }

    private static void memberUsable() {
        PackageModules x = twoModules();
        x.type(1, 0, 0, 1, NONE);
        x.exports(1, NONE, false);
        x.pack(1, 8);
        x.unit(3);
        x.member(0, 1, FIELD, true, NONE);
        x.member(0, 2, FIELD, false, NONE);
        x.imports(0, MEMBERS, 0, 0);
        x.imports(1, MEMBERS, 0, 0);
        due.is("17 open", 0, x.memberOf(0, 1, FIELD));
        due.is("17 not open", NONE, x.memberOf(0, 2, FIELD));
        due.is("17 open in its own module", 0, x.memberOf(1, 1, FIELD));
        due.is("17 not open in its own module", 1, x.memberOf(1, 2, FIELD));
        due.is("17 no such", NONE, x.memberOf(1, 3, FIELD));
        due.is("17 no method", NONE, x.memberOf(1, 1, METHOD));
    }

    private static void memberHidden() {
        PackageModules x = twoModules();
        x.type(0, 0, 0, 0, NONE);
        x.type(1, 0, 0, 1, 0);
        x.type(1, 1, 0, 1, 1);
        x.exports(1, NONE, false);
        x.member(0, 1, FIELD, false, NONE);
        x.member(0, 2, METHOD, true, NONE);
        x.imports(0, MEMBERS, 2, 0);
        due.is("17 of a grandparent, of the unit's module", 0, x.memberOf(0, 1, FIELD));
        due.is("17 method of a grandparent", 1, x.memberOf(0, 2, METHOD));
        x.member(1, 2, FIELD, true, NONE);
        due.is("17 a field does not hide a method", 1, x.memberOf(0, 2, METHOD));
        x.member(1, 2, METHOD, true, NONE);
        due.is("17 the nearer one", 3, x.memberOf(0, 2, METHOD));
        x.member(2, 1, FIELD, false, NONE);
        due.is("17 hidden by one not usable", NONE, x.memberOf(0, 1, FIELD));
    }

    private static void memberInOrder() {
        PackageModules x = twoModules();
        for (int k = 0; k < 3; k++) {
            x.type(0, k, 0, 1, NONE);
            x.member(k, 5, METHOD, true, NONE);
            x.member(k, 6, METHOD, true, NONE);
        }
        x.imports(0, MEMBERS, 2, 0);
        x.imports(0, MEMBERS, 0, 0);
        due.is("17 method of the first of 3", 4, x.memberOf(0, 5, METHOD));
        x.imports(0, MEMBER, 1, 5);
        due.is("17 2 before 3", 2, x.memberOf(0, 5, METHOD));
        x.imports(0, MEMBER, 0, 5);
        due.is("17 method of the first of 2", 2, x.memberOf(0, 5, METHOD));
        due.is("17 other names through 3", 5, x.memberOf(0, 6, METHOD));
    }

    private static void memberOfTwoFields() {
        PackageModules x = twoModules();
        x.type(0, 0, 0, 1, NONE);
        x.type(0, 1, 0, 1, 0);
        x.type(0, 2, 0, 1, NONE);
        x.member(0, 5, FIELD, true, NONE);
        x.member(2, 5, FIELD, true, NONE);
        x.imports(0, MEMBERS, 0, 0);
        x.imports(0, MEMBERS, 1, 0);
        due.is("17 one field by two ways", 0, x.memberOf(0, 5, FIELD));
        x.imports(0, MEMBERS, 2, 0);
        due.is("17 two fields", TWO, x.memberOf(0, 5, FIELD));
        x.imports(0, MEMBER, 2, 5);
        due.is("17 one by 2", 1, x.memberOf(0, 5, FIELD));
        x.imports(0, MEMBER, 1, 5);
        due.is("17 two by 2", TWO, x.memberOf(0, 5, FIELD));
    }

    private static void memberKindsAreApart() {
        PackageModules x = twoModules();
        x.type(0, 0, 0, 1, NONE);
        x.type(0, 1, 0, 1, NONE);
        x.member(0, 5, METHOD, true, NONE);
        x.member(1, 5, FIELD, true, NONE);
        x.imports(0, MEMBER, 0, 5);
        x.imports(0, MEMBERS, 1, 0);
        due.is("17 method by 2", 0, x.memberOf(0, 5, METHOD));
        due.is("17 no field by 2, so by 3", 1, x.memberOf(0, 5, FIELD));
        due.is("17 an import of a type is not of its members", NONE, otherUnit(x));
    }

    private static int otherUnit(PackageModules x) {
        x.unit(0);
        x.imports(1, TYPE, 0, 0);
        x.imports(1, PACK, 0, 0);
        return x.memberOf(1, 5, METHOD);
    }

    private static void memberWrong() {
        PackageModules x = twoModules();
        due.is("17 unit below", BAD, x.memberOf(-1, 0, FIELD));
        due.is("17 unit above", BAD, x.memberOf(1, 0, FIELD));
        due.is("17 name below", BAD, x.memberOf(0, -1, FIELD));
        due.is("17 name above", BAD, x.memberOf(0, 31, FIELD));
        due.is("17 kind below", BAD, x.memberOf(0, 0, -1));
        due.is("17 kind above", BAD, x.memberOf(0, 0, 2));
        due.is("17 nothing imported", NONE, x.memberOf(0, 30, METHOD));
    }

    private static void importsOfWhatIsCompiled() {
        PackageModules x = new PackageModules();
        x.module();
        x.module();
        x.requires(0, 1, 2);
        x.pack(0, 0);
        x.pack(1, 1);
        x.type(1, 0, 0, 1, NONE);
        x.member(0, 0, FIELD, true, NONE);
        x.exports(1, NONE, false);
        x.unit(0);
        due.is("15 pack of a static one", 1, x.imports(0, PACK, 1, 0));
        due.is("16 type of a static one", 0, x.meaning(0, 0));
        due.is("15 type of a static one", 2, x.imports(0, TYPE, 0, 0));
        due.is("15 members of a static one", 3, x.imports(0, MEMBERS, 0, 0));
        due.is("17 member of a static one", 0, x.memberOf(0, 0, FIELD));
    }

    /** The member is of the first of forty types, each the parent of the next. */
    private static void memberFarAbove() {
        PackageModules x = twoModules();
        x.pack(0, 9);
        for (int k = 0; k < 40; k++) {
            x.type(k % 2 * 3, k / 2, 0, 1, k - 1);
        }
        x.member(0, 5, FIELD, true, NONE);
        due.is("15 far above", 1, x.imports(0, MEMBER, 39, 5));
        due.is("17 far above", 0, x.memberOf(0, 5, FIELD));
    }
}
