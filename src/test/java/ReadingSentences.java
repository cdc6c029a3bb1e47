import java.util.List;

/** The boundaries of promises 6, 7 and 10 to 13: who requires, reads, sees and looks into what. */
final class ReadingSentences {
    static final List<Run> ALL = List.of(
        Run.of("6 BAD: no such MODULE", """
            2 times module
            5 times pack 0 #
            requires -1 0 PLAIN = BAD
            requires 2 0 PLAIN = BAD
            requires MIN 0 PLAIN = BAD
            requires MAX 0 PLAIN = BAD
            requires 0 -1 PLAIN = BAD
            requires 0 2 PLAIN = BAD
            requires 0 MIN PLAIN = BAD
            requires 0 MAX PLAIN = BAD
            requires 0 1 PLAIN = 1
            """),
        Run.of("6 BAD: how: 1 ON, 2 STATIC (together 3)", """
            6 times module
            requires 0 1 -1 = BAD
            requires 0 1 4 = BAD
            requires 0 1 MIN = BAD
            requires 0 1 MAX = BAD
            4 times requires 0 #+1 # = 1
            4 times reads 0 #+1 compiled = yes
            requires 5 0 PLAIN = 1
            reads 5 1 compiled = no // PLAIN
            reads 5 2 compiled = yes // ON
            reads 5 3 compiled = no // STATIC
            reads 5 4 compiled = yes // both
            reads 0 1 run = yes
            reads 0 2 run = yes
            reads 0 3 run = no
            reads 0 4 run = no
            """),
        Run.of("6 rule 1: itself, too", """
            2 times module
            4 times requires 1 1 # = rule1
            reads 1 1 run = yes
            graph 1 unbound = 1
            """),
        Run.of("6 rule 1: it would REQUIRE itself by a ring of two", """
            2 times module
            requires 0 1 PLAIN = 1
            4 times requires 1 0 # = rule1
            reads 1 0 compiled = no
            """),
        Run.of("6 rule 1: by a ring; STATIC ones count", """
            4 times module
            requires 0 1 STATIC = 1
            requires 1 2 BOTH = 1
            requires 2 3 STATIC = 1
            4 times requires 3 0 # = rule1
            4 times requires 2 0 # = rule1
            4 times requires 3 1 # = rule1
            graph 3 unbound = 1
            """),
        Run.of("6 rule 1: by a ring of all twelve, up", """
            12 times module
            11 times requires # #+1 PLAIN = 1
            requires 11 0 STATIC = rule1
            requires 11 1 PLAIN = rule1
            requires 0 11 PLAIN = 1
            """),
        Run.of("6 rule 1: by a ring of all twelve, down", """
            12 times module
            requires 11 10 STATIC
            requires 10 9 STATIC
            requires 9 8 STATIC
            requires 8 7 STATIC
            requires 7 6 STATIC
            requires 6 5 STATIC
            requires 5 4 STATIC
            requires 4 3 STATIC
            requires 3 2 STATIC
            requires 2 1 STATIC
            requires 1 0 STATIC
            requires 0 11 PLAIN = rule1
            requires 11 0 PLAIN = 1
            """),
        Run.of("6 rule 1: two ways to one MODULE are no ring", """
            4 times module
            requires 0 1 PLAIN = 1
            requires 0 2 PLAIN = 1
            requires 1 3 PLAIN = 1
            requires 2 3 PLAIN = 1
            requires 0 3 PLAIN = 1
            requires 1 2 PLAIN = 1
            requires 2 1 PLAIN = rule1
            """),
        Run.of("6 rule 2: it REQUIRES it already, however", """
            6 times module
            4 times requires 0 #+1 # = 1
            4 times requires 0 1 # = rule2
            4 times requires 0 2 # = rule2
            4 times requires 0 3 # = rule2
            4 times requires 0 4 # = rule2
            requires 5 1 PLAIN = 1 // another MODULE may
            reads 0 3 run = no // what is refused makes nothing PLAIN
            reads 0 4 run = no
            requires 5 0 PLAIN = 1
            reads 5 3 compiled = no // nor ON
            """),
        Run.of("7 BAD: no such PACKAGE, no such MODULE; NONE: to all", """
            2 times module
            3 times pack 0 #
            type 0 0 CLASS open NONE
            exports -1 all export = BAD
            exports 3 all opened = BAD
            exports MIN all export = BAD
            exports MAX all export = BAD
            exports 0 -2 export = BAD
            exports 0 2 export = BAD
            exports 0 2 opened = BAD
            exports 0 MIN export = BAD
            exports 0 MAX opened = BAD
            exports 0 NONE export = 1
            exports 0 1 export = 1
            """),
        Run.of("7 rule 1: of exports alone: it has no TYPES", """
            2 times module
            2 times pack 0 #
            type 1 0 CLASS open NONE // another PACKAGE's
            exports 0 all export = rule1
            exports 0 1 export = rule1
            exports 0 0 export = rule1 // before rule 3
            exports 0 all opened = 1
            exports 0 1 opened = 1
            exports 0 all export = rule1 // though it is OPENED
            type 0 0 CLASS closed NONE
            exports 0 all export = 1
            """),
        Run.of("7 rule 2: that is told already", """
            3 times module
            pack 0 0
            type 0 0 CLASS open NONE
            exports 0 1 export = 1
            exports 0 1 export = rule2
            exports 0 2 export = 1 // to more by further calls
            exports 0 1 export = rule2
            exports 0 2 export = rule2
            exports 0 1 opened = 1 // EXPORTED is not OPENED
            exports 0 1 opened = rule2
            exports 0 2 opened = 1
            exports 0 2 opened = rule2
            """),
        Run.of("7 rule 2: (to all: just so)", """
            2 times module
            pack 0 0
            type 0 0 CLASS open NONE
            exports 0 1 export = 1
            exports 0 all export = 1 // though it is to one
            exports 0 all export = rule2
            exports 0 1 export = rule2
            exports 0 all opened = 1
            exports 0 1 opened = 1 // though it is to all
            exports 0 all opened = rule2
            exports 0 1 opened = rule2
            """),
        Run.of("7 rule 3: to its own MODULE", """
            2 times module
            pack 1 0
            type 0 0 CLASS open NONE
            exports 0 1 export = rule3
            exports 0 1 opened = rule3
            exports 0 1 export = rule3 // it was not told
            exports 0 all export = 1
            exports 0 all opened = 1
            exports 0 1 export = rule3
            exports 0 1 opened = rule3
            """),
        Run.of("10 BAD: no such MODULE", """
            2 times module
            3 times pack 0 #
            reads -1 0 compiled = BAD
            reads 2 0 run = BAD
            reads MIN 0 compiled = BAD
            reads MAX 0 compiled = BAD
            reads 0 -1 compiled = BAD
            reads 0 2 run = BAD
            reads 0 MIN run = BAD
            reads 0 MAX run = BAD
            reads 1 0 compiled = no
            """),
        Run.of("10 It READS itself", """
            12 times module
            12 times reads # # compiled = yes
            12 times reads # # run = yes
            """),
        Run.of("10 those that these REQUIRE ON, and on through REQUIRES ON alone", """
            6 times module
            requires 0 1 PLAIN
            requires 1 2 ON
            requires 2 3 ON
            requires 3 4 PLAIN
            requires 4 5 ON
            4 times reads 0 # compiled = yes
            4 times reads 0 # run = yes
            reads 0 4 compiled = no
            reads 0 4 run = no
            reads 0 5 compiled = no
            reads 0 5 run = no
            reads 3 4 compiled = yes
            reads 3 5 compiled = yes
            reads 1 0 compiled = no // not backwards
            """),
        Run.of("10 on through REQUIRES ON, the longest line", """
            12 times module
            requires 0 11 PLAIN
            requires 11 1 ON
            requires 1 10 ON
            requires 10 2 ON
            requires 2 9 ON
            requires 9 3 ON
            requires 3 8 ON
            requires 8 4 ON
            requires 4 7 ON
            requires 7 5 ON
            requires 5 6 ON
            12 times reads 0 # compiled = yes
            12 times reads 0 # run = yes
            """),
        Run.of("10 on through REQUIRES ON: all that one REQUIRES ON, and no more", """
            7 times module
            requires 1 2 PLAIN
            requires 2 3 ON
            requires 2 4 ON
            requires 2 5 PLAIN
            requires 2 6 STATIC
            4 times reads 1 #+1 compiled = yes
            reads 1 5 compiled = no
            reads 1 6 compiled = no
            reads 1 0 compiled = no
            reads 1 0 run = no
            reads 1 3 run = yes
            reads 1 4 run = yes
            reads 1 5 run = no
            reads 1 6 run = no
            """),
        Run.of("10 compiled: STATIC ones, too; at the run: those that are not STATIC alone", """
            6 times module
            requires 0 1 STATIC
            requires 1 2 ON
            requires 0 3 PLAIN
            requires 3 4 BOTH
            requires 3 5 STATIC
            5 times reads 0 # compiled = yes
            reads 0 5 compiled = no // STATIC is not ON
            reads 0 1 run = no
            reads 0 2 run = no // behind a STATIC one
            reads 0 3 run = yes
            reads 0 4 run = no
            reads 3 4 run = no
            requires 0 2 PLAIN = 1
            reads 0 2 run = yes // by another way
            """),
        Run.of("11 BAD: no such MODULE", """
            2 times module
            3 times pack 0 #
            4 times type 0 # CLASS open NONE
            sees -1 0 pack = BAD
            sees 2 0 pack = BAD
            sees 2 0 type = BAD
            sees MIN 0 type = BAD
            sees MAX 0 pack = BAD
            sees 1 0 pack = no
            """),
        Run.of("11 BAD: no such PACKAGE (type false) or TYPE", """
            module
            2 times pack 0 #
            4 times type 0 # CLASS open NONE
            sees 0 -1 pack = BAD
            sees 0 1 pack = yes
            sees 0 2 pack = BAD // a TYPE's number
            sees 0 MIN pack = BAD
            sees 0 MAX pack = BAD
            sees 0 -1 type = BAD
            sees 0 3 type = yes // no PACKAGE's number
            sees 0 4 type = BAD
            sees 0 MIN type = BAD
            sees 0 MAX type = BAD
            """),
        Run.of("11 A MODULE SEES a PACKAGE, if that is its own", """
            2 times module
            pack 0 0
            sees 0 0 pack = yes // without TYPES, not EXPORTED
            sees 1 0 pack = no
            """),
        Run.of("11 or one of a MODULE that it READS (compiled), EXPORTED to all", """
            4 times module
            pack 0 0
            type 0 0 CLASS open NONE
            requires 1 0 STATIC
            requires 3 1 PLAIN
            sees 1 0 pack = no // not EXPORTED
            exports 0 all opened
            sees 1 0 pack = no // OPENED is not EXPORTED
            exports 0 all export
            sees 1 0 pack = yes
            sees 2 0 pack = no // does not READ it
            sees 3 0 pack = no // READS the MODULE that READS it
            """),
        Run.of("11 EXPORTED to it", """
            5 times module
            pack 0 0
            type 0 0 CLASS open NONE
            requires 1 0 PLAIN
            requires 2 0 PLAIN
            requires 4 0 PLAIN
            exports 0 1 export
            exports 0 3 export
            sees 1 0 pack = yes
            sees 2 0 pack = no // EXPORTED to others alone
            sees 3 0 pack = no // does not READ it
            exports 0 4 export
            sees 4 0 pack = yes
            sees 1 0 pack = yes
            """),
        Run.of("11 EXPORTED to the last MODULE is not to all", """
            12 times module
            pack 0 0
            type 0 0 CLASS open NONE
            requires 11 0 PLAIN
            requires 10 0 PLAIN
            exports 0 11 export
            sees 11 0 pack = yes
            sees 10 0 pack = no
            """),
        Run.of("11 It SEES a TYPE, if it SEES its PACKAGE, and it is OPEN", """
            3 times module
            pack 0 0
            pack 0 1
            type 0 0 CLASS open NONE
            type 0 1 CLASS maker NONE
            type 1 0 CLASS open NONE
            requires 1 0 PLAIN
            exports 0 all export
            sees 1 0 type = yes
            sees 1 1 type = no // not OPEN
            sees 1 2 type = no // its PACKAGE is not EXPORTED
            sees 2 0 type = no // not READ
            """),
        Run.of("11 or of the MODULE's own PACKAGES", """
            2 times module
            2 times pack 0 #
            type 0 0 CLASS closed NONE
            type 1 0 INNER closed NONE
            sees 0 0 type = yes
            sees 0 1 type = yes
            sees 1 0 type = no
            """),
        Run.of("12 BAD: no such MODULE, no such PACKAGE", """
            2 times module
            pack 0 0
            looks -1 0 = BAD
            looks 2 0 = BAD
            looks MIN 0 = BAD
            looks MAX 0 = BAD
            looks 0 -1 = BAD
            looks 0 1 = BAD
            looks 0 MIN = BAD
            looks 0 MAX = BAD
            looks 1 0 = no
            """),
        Run.of("12 it is its own, or OPENED to all (whatever it READS)", """
            2 times module
            pack 0 0
            type 0 0 CLASS open NONE
            exports 0 all export
            looks 0 0 = yes
            looks 1 0 = no // EXPORTED is not OPENED
            exports 0 all opened
            looks 1 0 = yes // READS it not
            reads 1 0 run = no
            """),
        Run.of("12 OPENED to it (whatever it READS)", """
            12 times module
            pack 0 0
            requires 2 0 PLAIN
            exports 0 1 opened
            exports 0 11 opened
            looks 1 0 = yes
            looks 11 0 = yes
            looks 2 0 = no // READS it, but it is OPENED to others
            looks 10 0 = no
            """),
        Run.of("13 BAD: no such MODULE", """
            2 times module
            3 times pack 0 #
            split -1 = BAD
            split 2 = BAD
            split MIN = BAD
            split MAX = BAD
            split 1 = NONE
            """),
        Run.of("13 NONE: it SEES no two of one NAME", """
            3 times module
            pack 0 5
            pack 1 5
            type 0 0 CLASS open NONE
            type 1 0 CLASS open NONE
            split 0 = NONE
            requires 0 1 PLAIN
            split 0 = NONE // not EXPORTED
            exports 1 2 export
            split 0 = NONE // EXPORTED to another
            exports 1 all opened
            split 0 = NONE // OPENED is not EXPORTED
            exports 0 all export
            split 1 = NONE // READS it not
            exports 1 0 export
            split 0 = 5
            split 1 = NONE
            split 2 = NONE
            """),
        Run.of("13 two PACKAGES of one NAME that it SEES (in two MODULES), neither its own", """
            4 times module
            pack 1 5
            pack 2 5
            type 0 0 CLASS open NONE
            type 1 0 CLASS open NONE
            exports 0 all export
            exports 1 all export
            requires 0 1 PLAIN
            requires 3 2 BOTH
            split 0 = NONE
            requires 0 3 STATIC
            split 0 = 5 // compiled, through ON
            split 3 = NONE
            """),
        Run.of("13 The least NAME", """
            2 times module
            requires 0 1 PLAIN
            pack 0 30
            pack 0 12
            pack 0 0
            pack 0 1 // one that is no SPLIT
            pack 1 12
            pack 1 0
            pack 1 30
            3 times type #+4 0 CLASS closed NONE
            exports 6 all export
            split 0 = 30
            exports 4 all export
            split 0 = 12
            exports 5 all export
            split 0 = 0
            """));
}
