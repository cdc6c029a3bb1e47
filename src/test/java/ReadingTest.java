/** Promises 6, 7 and 10 to 13: who requires, reads, sees and looks into what. */
final class ReadingTest {
    private static final int NONE = PackageModules.NONE, BAD = PackageModules.BAD;
    private static final int PLAIN = 0, ON = 1, STATIC = 2, BOTH = 3;
    private static final Due due = new Due("ReadingTest");

    public static void main(String[] args) {
        requiresWrong();
        requiresRules();
        refusedRequiresChangesNothing();
        readsThroughOn();
        readsAtTheRun();
        readsWrong();
        exportsRules();
        exportsAndOpensAreApart();
        sees();
        seesWhatIsCompiled();
        looks();
        split();
        splitOfOthers();
        longLines();
        moreThanOneOfEach();
        due.end();
    }

    private static PackageModules withModules(int modules) {
        PackageModules x = new PackageModules();
        for (int k = 0; k < modules; k++) {
            x.module();
        }
        return x;
    }

    private static void requiresWrong() {
        PackageModules x = withModules(2);
        due.is("6 module below", BAD, x.requires(-1, 0, PLAIN));
        due.is("6 module above", BAD, x.requires(2, 0, PLAIN));
        due.is("6 other below", BAD, x.requires(0, -1, PLAIN));
        due.is("6 other above", BAD, x.requires(0, 2, PLAIN));
        due.is("6 how below", BAD, x.requires(0, 1, -1));
        due.is("6 how above", BAD, x.requires(0, 1, 4));
        due.is("6 BAD before itself", BAD, x.requires(0, 0, 4));
    }

    private static void requiresRules() {
        PackageModules x = withModules(5);
        due.is("6 itself", -11, x.requires(0, 0, STATIC));
        due.is("6 static", 1, x.requires(0, 1, STATIC));
        due.is("6 on", 1, x.requires(1, 2, ON));
        due.is("6 both", 1, x.requires(2, 3, BOTH));
        due.is("6 ring of two", -11, x.requires(1, 0, PLAIN));
        due.is("6 ring of four, static ones count", -11, x.requires(3, 0, STATIC));
        due.is("6 already", -12, x.requires(0, 1, PLAIN));
        due.is("6 already, just so", -12, x.requires(0, 1, STATIC));
        due.is("6 a way round is no ring", 1, x.requires(0, 3, PLAIN));
        due.is("6 the other way", 1, x.requires(4, 0, PLAIN));
    }

    private static void refusedRequiresChangesNothing() {
        PackageModules x = withModules(3);
        x.requires(0, 1, STATIC);
        x.requires(0, 1, ON);
        x.requires(1, 0, PLAIN);
        x.requires(2, 0, PLAIN);
        due.is("6 stays static", 0, x.reads(0, 1, true));
        due.is("6 stays not on", 0, x.reads(2, 1, false));
        due.is("6 no ring came", 0, x.reads(1, 0, false));
    }

    private static void readsThroughOn() {
        PackageModules x = withModules(6);
        x.requires(0, 1, PLAIN);
        x.requires(1, 2, ON);
        x.requires(2, 3, ON);
        x.requires(3, 4, PLAIN);
        x.requires(4, 5, ON);
        due.is("10 itself", 1, x.reads(0, 0, false));
        due.is("10 itself at the run", 1, x.reads(0, 0, true));
        due.is("10 plain", 1, x.reads(0, 1, false));
        due.is("10 one on", 1, x.reads(0, 2, false));
        due.is("10 two on", 1, x.reads(0, 3, true));
        due.is("10 not through plain", 0, x.reads(0, 4, false));
        due.is("10 not beyond plain", 0, x.reads(0, 5, false));
        due.is("10 plain of its own", 1, x.reads(3, 4, false));
        due.is("10 not backwards", 0, x.reads(1, 0, false));
    }

    private static void readsAtTheRun() {
        PackageModules x = withModules(6);
        x.requires(0, 1, STATIC);
        x.requires(0, 2, BOTH);
        x.requires(1, 3, ON);
        x.requires(4, 0, PLAIN);
        due.is("10 static compiled", 1, x.reads(0, 1, false));
        due.is("10 static at the run", 0, x.reads(0, 1, true));
        due.is("10 both compiled", 1, x.reads(0, 2, false));
        due.is("10 both at the run", 0, x.reads(0, 2, true));
        due.is("10 on behind static compiled", 1, x.reads(0, 3, false));
        due.is("10 on behind static at the run", 0, x.reads(0, 3, true));
        due.is("10 static alone is not on", 0, x.reads(4, 1, false));
        due.is("10 both is on, compiled", 1, x.reads(4, 2, false));
        due.is("10 both is not on at the run", 0, x.reads(4, 2, true));
        x.requires(5, 0, ON);
        x.requires(4, 5, PLAIN);
        due.is("10 through on at the run", 1, x.reads(4, 5, true));
    }

    private static void readsWrong() {
        PackageModules x = withModules(1);
        due.is("10 module below", BAD, x.reads(-1, 0, true));
        due.is("10 module above", BAD, x.reads(1, 0, true));
        due.is("10 other below", BAD, x.reads(0, -1, true));
        due.is("10 other above", BAD, x.reads(0, 1, true));
    }

    private static void exportsRules() {
        PackageModules x = withModules(3);
        x.pack(0, 0);
        due.is("7 pack below", BAD, x.exports(-1, NONE, false));
        due.is("7 pack above", BAD, x.exports(1, NONE, false));
        due.is("7 to below", BAD, x.exports(0, -2, false));
        due.is("7 to above", BAD, x.exports(0, 3, true));
        due.is("7 no types", -11, x.exports(0, NONE, false));
        due.is("7 no types before its own", -11, x.exports(0, 0, false));
        due.is("7 opened without types", 1, x.exports(0, NONE, true));
        due.is("7 opened already", -12, x.exports(0, NONE, true));
        x.type(0, 0, 0, 0, NONE);
        due.is("7 to one", 1, x.exports(0, 1, false));
        due.is("7 to one already", -12, x.exports(0, 1, false));
        due.is("7 to another", 1, x.exports(0, 2, false));
        due.is("7 to all after one", 1, x.exports(0, NONE, false));
        due.is("7 to all already", -12, x.exports(0, NONE, false));
        due.is("7 to its own", -13, x.exports(0, 0, false));
        due.is("7 opened to its own", -13, x.exports(0, 0, true));
        due.is("7 opened to one after all", 1, x.exports(0, 2, true));
        due.is("7 opened to one already", -12, x.exports(0, 2, true));
    }

    private static void exportsAndOpensAreApart() {
        PackageModules x = withModules(2);
        x.requires(0, 1, PLAIN);
        x.pack(1, 0);
        x.pack(1, 1);
        x.type(0, 0, 0, 1, NONE);
        x.type(1, 0, 0, 1, NONE);
        x.exports(0, NONE, false);
        x.exports(1, NONE, true);
        due.is("11 exported", 1, x.sees(0, 0, false));
        due.is("12 exported is not opened", 0, x.looks(0, 0));
        due.is("11 opened is not exported", 0, x.sees(0, 1, false));
        due.is("12 opened", 1, x.looks(0, 1));
    }

    private static void sees() {
        PackageModules x = withModules(4);
        x.requires(0, 1, PLAIN);
        x.requires(2, 1, PLAIN);
        x.pack(1, 0);
        x.pack(1, 1);
        x.type(0, 0, 0, 1, NONE);
        x.type(0, 1, 0, 2, NONE);
        x.exports(0, 0, false);
        due.is("11 to it", 1, x.sees(0, 0, false));
        due.is("11 to another", 0, x.sees(2, 0, false));
        due.is("11 its own", 1, x.sees(1, 1, false));
        due.is("11 not exported", 0, x.sees(0, 1, false));
        due.is("11 open type", 1, x.sees(0, 0, true));
        due.is("11 type that is not open", 0, x.sees(0, 1, true));
        due.is("11 own type that is not open", 1, x.sees(1, 1, true));
        due.is("11 open type of an unseen pack", 0, x.sees(2, 0, true));
        x.exports(0, NONE, false);
        due.is("11 to all", 1, x.sees(2, 0, false));
        due.is("11 to all, but not read", 0, x.sees(3, 0, false));
        due.is("11 type, but not read", 0, x.sees(3, 0, true));
        due.is("11 module below", BAD, x.sees(-1, 0, false));
        due.is("11 module above", BAD, x.sees(4, 0, true));
        due.is("11 pack below", BAD, x.sees(0, -1, false));
        due.is("11 pack above", BAD, x.sees(0, 2, false));
        x.type(1, 0, 0, 1, NONE);
        due.is("11 type of the number that no pack has", 0, x.sees(0, 2, true));
        due.is("11 type above", BAD, x.sees(0, 3, true));
        due.is("11 type below", BAD, x.sees(0, -1, true));
    }

    private static void seesWhatIsCompiled() {
        PackageModules x = withModules(2);
        x.requires(0, 1, STATIC);
        x.pack(1, 0);
        x.type(0, 0, 0, 1, NONE);
        x.exports(0, NONE, false);
        due.is("11 static", 1, x.sees(0, 0, false));
        due.is("11 static type", 1, x.sees(0, 0, true));
    }

    private static void looks() {
        PackageModules x = withModules(3);
        x.pack(0, 0);
        due.is("12 its own", 1, x.looks(0, 0));
        due.is("12 not opened", 0, x.looks(1, 0));
        x.exports(0, 1, true);
        due.is("12 opened to it, not read", 1, x.looks(1, 0));
        due.is("12 opened to another", 0, x.looks(2, 0));
        x.exports(0, NONE, true);
        due.is("12 opened to all, not read", 1, x.looks(2, 0));
        due.is("12 module below", BAD, x.looks(-1, 0));
        due.is("12 module above", BAD, x.looks(3, 0));
        due.is("12 pack below", BAD, x.looks(0, -1));
        due.is("12 pack above", BAD, x.looks(0, 1));
    }

    private static void split() {
        PackageModules x = withModules(3);
        due.is("13 module below", BAD, x.split(-1));
        due.is("13 module above", BAD, x.split(3));
        x.pack(0, 30);
        x.pack(0, 9);
        x.pack(1, 30);
        x.pack(1, 9);
        for (int pack = 0; pack < 4; pack++) {
            x.type(pack, 0, 0, 0, NONE);
        }
        x.exports(2, NONE, false);
        due.is("13 not read", NONE, x.split(0));
        x.requires(0, 1, STATIC);
        due.is("13 greatest name", 30, x.split(0));
        x.exports(3, 2, false);
        due.is("13 exported to another", 30, x.split(0));
        x.exports(3, 0, false);
        due.is("13 the least", 9, x.split(0));
        due.is("13 not the other's", NONE, x.split(1));
    }

    private static void splitOfOthers() {
        PackageModules x = withModules(4);
        x.pack(1, 0);
        x.pack(2, 0);
        x.type(0, 0, 0, 0, NONE);
        x.type(1, 0, 0, 0, NONE);
        x.exports(0, NONE, false);
        x.exports(1, NONE, false);
        x.requires(0, 1, PLAIN);
        x.requires(3, 2, ON);
        due.is("13 sees one", NONE, x.split(0));
        x.requires(0, 3, PLAIN);
        due.is("13 two of others, one through on", 0, x.split(0));
    }

    /** Twelve modules in a line, by rising and by falling numbers. */
    private static void longLines() {
        PackageModules up = withModules(12);
        PackageModules down = withModules(12);
        for (int k = 0; k < 11; k++) {
            due.is("6 up", 1, up.requires(k, k + 1, ON));
            due.is("6 down", 1, down.requires(11 - k, 10 - k, ON));
        }
        for (boolean run : new boolean[] {false, true}) {
            due.is("10 up to the end", 1, up.reads(0, 11, run));
            due.is("10 down to the end", 1, down.reads(11, 0, run));
            due.is("10 not up again", 0, down.reads(0, 11, run));
            due.is("10 not down again", 0, up.reads(11, 0, run));
        }
        due.is("6 ring of twelve, up", -11, up.requires(11, 0, STATIC));
        due.is("6 ring of twelve, down", -11, down.requires(0, 11, STATIC));
        due.is("18 all, up", 12, up.graph(0, false));
        due.is("18 all, down", 12, down.graph(11, false));
    }

    /** What is told later takes nothing from what was told before. */
    private static void moreThanOneOfEach() {
        PackageModules x = withModules(12);
        x.requires(0, 1, PLAIN);
        x.requires(1, 2, ON);
        x.requires(1, 3, ON);
        x.requires(1, 4, PLAIN);
        x.requires(1, 5, BOTH);
        x.requires(6, 1, STATIC);
        int[] compiled = {1, 1, 1, 1, 0, 1, 0};
        int[] atRun = {1, 1, 1, 1, 0, 0, 0};
        for (int other = 0; other < compiled.length; other++) {
            due.is("10 compiled " + other, compiled[other], x.reads(0, other, false));
            due.is("10 at the run " + other, atRun[other], x.reads(0, other, true));
        }
        x.pack(1, 0);
        x.type(0, 0, 0, 1, NONE);
        x.exports(0, 0, false);
        x.exports(0, 11, false);
        x.exports(0, 0, true);
        x.exports(0, 11, true);
        due.is("11 the first", 1, x.sees(0, 0, false));
        due.is("12 the first", 1, x.looks(0, 0));
        due.is("12 the last", 1, x.looks(11, 0));
        due.is("11 to the last is not to all", 0, x.sees(6, 0, false));
        due.is("12 to the last is not to all", 0, x.looks(6, 0));
        x.pack(0, 0);
        x.pack(0, 1);
        due.is("13 the least stays, whatever comes behind", 0, x.split(0));
    }
}
