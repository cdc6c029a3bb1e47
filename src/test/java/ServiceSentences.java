import java.util.List;

/** The boundaries of promises 8, 9 and 18 to 20: uses, provides, graphs and their providers. */
final class ServiceSentences {
    /** Module 0 has the pack 0, EXPORTED to all, with the open FACE 0; module 1 requires it, as does 2; 3 does not. */
    private static final String SERVICE = """
        4 times module
        requires 1 0 PLAIN
        requires 2 0 PLAIN
        pack 0 0
        type 0 0 FACE open NONE
        exports 0 all export
        """;

    static final List<Run> ALL = List.of(
        Run.of("8 BAD: no such MODULE, no such TYPE", """
            2 times module
            3 times pack 0 #
            type 0 0 FACE open NONE
            uses -1 0 = BAD
            uses 2 0 = BAD
            uses MIN 0 = BAD
            uses MAX 0 = BAD
            uses 0 -1 = BAD
            uses 0 1 = BAD
            uses 0 MIN = BAD
            uses 0 MAX = BAD
            uses 0 0 = 1
            """),
        Run.of("8 rule 1: the MODULE does not SEE the SERVICE", SERVICE + """
            type 0 1 FACE closed NONE
            uses 3 0 = rule1 // not READ
            uses 1 1 = rule1 // not OPEN
            uses 0 1 = 1 // its own
            uses 1 0 = 1
            requires 3 0 STATIC
            uses 3 0 = 1 // compiled
            """),
        Run.of("8 then 8: it USES it already", SERVICE + """
            type 0 1 FACE open NONE
            uses 1 0 = 1
            uses 1 0 = rule8
            uses 1 1 = 1 // another SERVICE
            uses 2 0 = 1 // another MODULE
            uses 1 0 = rule8
            uses 1 1 = rule8
            """),
        Run.of("8 each of forty SERVICES is apart from the others", """
            module
            2 times pack 0 #
            20 times type 0 # FACE open NONE
            20 times type 1 # FACE open NONE
            uses 0 0 = 1
            uses 0 31 = 1
            provider 0 32 0 = NO
            provider 0 39 0 = NO
            uses 0 39 = 1
            uses 0 32 = 1
            provider 0 7 0 = NO
            uses 0 7 = 1
            uses 0 8 = 1
            uses 0 39 = rule8
            """),
        Run.of("9 BAD: no such MODULE, no such TYPE", """
            2 times module
            3 times pack 0 #
            type 0 0 CLASS open+maker NONE
            provides -1 0 0 = BAD
            provides 2 0 0 = BAD
            provides MIN 0 0 = BAD
            provides MAX 0 0 = BAD
            provides 0 -1 0 = BAD
            provides 0 1 0 = BAD
            provides 0 MIN 0 = BAD
            provides 0 MAX 0 = BAD
            provides 0 0 -1 = BAD
            provides 0 0 1 = BAD
            provides 0 0 MIN = BAD
            provides 0 0 MAX = BAD
            provides 0 0 0 = 1
            """),
        Run.of("9 rule 1: the MODULE does not SEE the SERVICE, before all others", SERVICE + """
            pack 3 1
            type 1 0 CLASS open+maker 0 // 1
            type 1 1 ABSTRACT closed NONE // 2
            provides 3 0 1 = rule1
            provides 3 0 0 = rule1 // of no PACKAGE of its own, too
            provides 3 0 2 = rule1 // not OPEN, ABSTRACT, no MAKER, no SUBTYPE, too
            requires 3 0 STATIC
            provides 3 0 1 = 1 // compiled
            """),
        Run.of("9 rule 1: the SERVICE is not OPEN", SERVICE + """
            type 0 1 FACE closed NONE // 1
            pack 1 1
            type 1 0 CLASS open+maker 1 // 2
            provides 1 1 2 = rule1
            type 0 2 CLASS open+maker 1 // 3
            provides 0 1 3 = 1 // its own
            """),
        Run.of("9 rule 2: the TYPE is of no PACKAGE of its own", SERVICE + """
            pack 2 1
            type 1 0 CLASS open+maker 0 // 1
            type 1 1 INNER closed NONE // 2
            type 0 1 CLASS open+maker 0 // 3
            type 1 2 ABSTRACT open 0 // 4
            member 4 0 METHOD yes NONE
            provides 1 0 1 = rule2
            provides 1 0 2 = rule2 // before 3, 5, 6, 7
            provides 1 0 3 = rule2 // though it SEES it
            provides 1 0 4 = rule2 // before 4
            provides 2 0 1 = 1
            provides 1 0 1 = rule2 // before 8
            """),
        Run.of("9 rule 3: it is not OPEN", SERVICE + """
            pack 1 1
            type 1 0 CLASS maker 0 // 1
            type 1 1 ABSTRACT closed NONE // 2
            type 1 2 CLASS maker 0 // 3
            member 3 0 METHOD yes NONE
            type 1 3 CLASS maker 0 // 4
            member 4 0 METHOD yes 0
            provides 1 0 1 = rule3
            provides 1 0 2 = rule3 // before 5, 6, 7
            provides 1 0 3 = rule3 // before 4
            provides 1 0 4 = rule3 // whatever its PROVIDER member GIVES
            """),
        Run.of("9 rule 4: a PROVIDER member that is OPEN, which does not GIVE a SUBTYPE of the SERVICE", SERVICE + """
            pack 1 1
            type 1 0 CLASS open+maker 0 // 1
            type 1 1 CLASS open+maker NONE // 2
            member 1 0 METHOD yes 2
            provides 1 0 1 = rule4 // though it is a SUBTYPE with a MAKER
            type 1 2 ABSTRACT open NONE // 3
            member 3 0 METHOD yes 3
            provides 1 0 3 = rule4 // before 5, 6, 7
            type 1 3 CLASS open+maker 0 // 4
            member 4 0 METHOD yes NONE
            provides 1 0 4 = rule4 // GIVES none
            type 1 4 FACE open 0 // 5
            type 1 5 CLASS open+maker 5 // 6
            member 6 0 METHOD yes 0
            provides 1 5 6 = rule4 // GIVES the parent of the SERVICE
            """),
        Run.of("9 rule 4: what it GIVES is the SERVICE, or far below it; then 5, 6, 7 do not count", SERVICE + """
            pack 1 1
            4 times type 1 # # open NONE // 1 .. 4
            4 times member #+1 0 METHOD yes 0
            4 times provides 1 0 #+1 = 1
            type 1 4 FACE closed 0 // 5
            type 1 5 ABSTRACT closed 5 // 6
            type 1 6 INNER open NONE // 7
            member 7 0 METHOD yes 6
            provides 1 0 7 = 1
            """),
        Run.of("9 rule 4: a PROVIDER member that is not OPEN is none", SERVICE + """
            pack 1 1
            type 1 0 CLASS open+maker 0 // 1
            member 1 0 METHOD no NONE
            provides 1 0 1 = 1
            type 1 1 ABSTRACT open 0 // 2
            member 2 0 METHOD no 0
            provides 1 0 2 = rule5
            """),
        Run.of("9 rule 4: its own", SERVICE + """
            pack 1 1
            type 1 0 CLASS open+maker 0 // 1
            member 1 0 METHOD yes NONE
            type 1 1 CLASS open+maker 1 // 2
            provides 1 0 2 = 1 // the parent's, which GIVES none, is not its own
            type 1 2 ABSTRACT open+maker NONE // 3
            member 3 0 METHOD yes 0
            type 1 3 ABSTRACT open+maker 3 // 4
            provides 1 0 4 = rule5 // nor is one that GIVES the SERVICE
            """),
        Run.of("9 rule 4: a PROVIDER member is a METHOD of NAME 0", SERVICE + """
            pack 1 1
            type 1 0 ABSTRACT open 0 // 1
            member 1 0 FIELD yes 0
            provides 1 0 1 = rule5
            member 1 1 METHOD yes 0
            provides 1 0 1 = rule5
            member 1 30 METHOD yes 0
            provides 1 0 1 = rule5
            member 1 0 METHOD yes 0
            provides 1 0 1 = 1
            """),
        Run.of("9 rule 5: without one: it is ABSTRACT, a FACE, INNER", SERVICE + """
            pack 1 1
            4 times type 1 # # open+maker 0 // 1 .. 4
            provides 1 0 1 = 1
            provides 1 0 2 = rule5
            provides 1 0 3 = rule5
            provides 1 0 4 = rule5
            3 times type 1 #+5 #+1 open NONE // 5 .. 7
            3 times provides 1 0 #+5 = rule5 // before 6, 7
            """),
        Run.of("9 rule 6: it has no MAKER", SERVICE + """
            pack 1 1
            type 1 0 CLASS open 0 // 1
            type 1 1 CLASS open NONE // 2
            type 1 2 CLASS open+maker 1 // 3
            type 1 3 CLASS open 3 // 4
            provides 1 0 1 = rule6
            provides 1 0 2 = rule6 // before 7
            provides 1 0 4 = rule6 // a parent's MAKER is not its own
            provides 1 0 3 = 1
            """),
        Run.of("9 rule 7: it is no SUBTYPE of the SERVICE", SERVICE + """
            pack 1 1
            type 1 0 CLASS open+maker NONE // 1
            type 1 1 CLASS open+maker 0 // 2
            type 1 2 CLASS open+maker 2 // 3
            provides 1 0 1 = rule7
            provides 1 3 2 = rule7 // its child
            provides 1 0 3 = 1
            provides 1 2 3 = 1
            provides 1 3 3 = 1
            """),
        Run.of("9 then 8: it PROVIDES it so already", SERVICE + """
            pack 1 1
            type 1 0 CLASS open+maker 0 // 1
            type 1 1 CLASS open+maker 1 // 2
            type 1 2 INNER open NONE // 3
            member 3 0 METHOD yes 1
            provides 1 0 1 = 1
            provides 1 0 1 = rule8
            provides 1 0 2 = 1 // another TYPE
            provides 1 1 2 = 1 // another SERVICE
            provides 1 1 2 = rule8
            provides 1 0 2 = rule8
            provides 1 0 3 = 1
            provides 1 0 3 = rule8 // by a PROVIDER member
            uses 1 0 = 1
            provider 1 0 2 = 3
            provider 1 0 3 = NONE // none is there twice
            """),
        Run.of("9 then 8: rule 4 first, if a PROVIDER member came since", SERVICE + """
            pack 1 1
            type 1 0 CLASS open+maker 0 // 1
            provides 1 0 1 = 1
            member 1 0 METHOD yes NONE
            provides 1 0 1 = rule4
            uses 1 0 = 1
            provider 1 0 0 = 1 // it stays
            """),
        Run.of("18 BAD: no such MODULE", """
            2 times module
            3 times pack 0 #
            graph -1 unbound = BAD
            graph 2 unbound = BAD
            graph 2 bound = BAD
            graph MIN bound = BAD
            graph MAX unbound = BAD
            graph 1 unbound = 1
            """),
        Run.of("18 the root, what MODULES in it REQUIRE and is not STATIC", """
            8 times module
            requires 0 1 PLAIN
            requires 1 2 PLAIN
            requires 2 3 ON
            requires 0 4 STATIC
            requires 3 5 BOTH
            requires 4 6 PLAIN
            graph 0 unbound = 4
            graph 0 bound = 4
            4 times has 0 unbound # = yes
            has 0 unbound 4 = no
            has 0 unbound 5 = no
            has 0 unbound 6 = no // behind a STATIC one
            has 0 unbound 7 = no
            graph 4 unbound = 2
            graph 7 unbound = 1 // alone
            graph 3 unbound = 1
            """),
        Run.of("18 the longest line", """
            12 times module
            requires 0 11 PLAIN
            requires 11 1 ON
            requires 1 10 PLAIN
            requires 10 2 ON
            requires 2 9 PLAIN
            requires 9 3 ON
            requires 3 8 PLAIN
            requires 8 4 ON
            requires 4 7 PLAIN
            requires 7 5 ON
            requires 5 6 PLAIN
            graph 0 unbound = 12
            graph 5 unbound = 2
            12 times has 0 bound # = yes
            """),
        Run.of("18 BOUND: also MODULES that PROVIDE a SERVICE that one in it USES", SERVICE + """
            pack 2 1
            type 1 0 CLASS open+maker 0
            graph 1 bound = 2
            provides 2 0 1 = 1
            graph 1 bound = 2 // none USES it
            uses 1 0 = 1
            graph 1 bound = 3
            graph 1 unbound = 2
            has 1 bound 2 = yes
            has 1 unbound 2 = no
            graph 0 bound = 1 // it does not USE it
            graph 3 bound = 1
            uses 0 0 = 1
            graph 0 bound = 2
            has 0 bound 1 = no // USING it is not PROVIDING it
            """),
        Run.of("18 a SERVICE that one in it USES, not the root alone", SERVICE + """
            pack 2 1
            type 1 0 CLASS open+maker 0
            provides 2 0 1 = 1
            uses 0 0 = 1
            graph 1 bound = 3
            has 1 bound 2 = yes
            """),
        Run.of("18 a SERVICE's SUBTYPE is not the SERVICE", SERVICE + """
            type 0 1 FACE open 0 // 1
            pack 2 1
            type 1 0 CLASS open+maker 1
            provides 2 1 2 = 1
            uses 1 0 = 1
            graph 1 bound = 2
            uses 1 1 = 1
            graph 1 bound = 3
            """),
        Run.of("18 a SERVICE that one in it USES: each of forty SERVICES is apart from the others", """
            4 times module
            4 times pack # #
            3 times requires #+1 0 STATIC
            20 times type 0 # FACE open NONE // 0 .. 19
            exports 0 all export
            type 1 0 CLASS open+maker 0 // 20, in the place of 0
            type 2 0 CLASS open+maker 7 // 21, in the place of 7
            11 times type 0 #+20 FACE open NONE // 22 .. 32
            pack 0 9 // 4
            7 times type 4 # FACE open NONE // 33 .. 39
            exports 4 all export
            member 20 0 METHOD yes 32
            member 21 0 METHOD yes 39
            provides 1 32 20 = 1
            provides 2 39 21 = 1
            uses 3 0 = 1
            uses 3 7 = 1
            graph 3 bound = 1
            uses 3 39 = 1
            graph 3 bound = 2
            has 3 bound 2 = yes
            uses 3 32 = 1
            graph 3 bound = 3
            has 3 bound 1 = yes
            """),
        Run.of("18 and on, till none is to be added: a line of twelve, each bound by the one before", """
            12 times module
            12 times pack # 0
            12 times type # 0 CLASS open+maker NONE // TYPE # of MODULE #
            12 times exports # all export
            requires 11 10 STATIC
            requires 10 9 STATIC
            requires 9 8 STATIC
            requires 8 7 STATIC
            requires 7 6 STATIC
            requires 6 5 STATIC
            requires 5 4 STATIC
            requires 4 3 STATIC
            requires 3 2 STATIC
            requires 2 1 STATIC
            requires 1 0 STATIC
            11 times uses #+1 # = 1 // each USES what the one below PROVIDES
            12 times provides # # # = 1
            graph 11 bound = 12
            graph 11 unbound = 1
            12 times has 11 bound # = yes
            graph 5 bound = 6
            has 5 bound 6 = no
            """),
        Run.of("18 and on: what a bound one REQUIRES, and what that one USES", """
            6 times module
            pack 5 0
            2 times type 0 # FACE open NONE
            exports 0 all export
            5 times requires # 5 STATIC
            pack 4 1
            pack 2 1
            type 1 0 CLASS open+maker 0 // 2, of MODULE 4
            type 2 0 CLASS open+maker 1 // 3, of MODULE 2
            requires 4 3 PLAIN
            requires 2 1 ON
            uses 0 0 = 1
            uses 3 1 = 1
            provides 4 0 2 = 1
            provides 2 1 3 = 1
            graph 0 bound = 5
            has 0 bound 5 = no // STATIC
            has 0 bound 1 = yes
            graph 4 bound = 4
            graph 4 unbound = 2
            """),
        Run.of("19 BAD: no such MODULE", """
            2 times module
            3 times pack 0 #
            has -1 unbound 0 = BAD
            has 2 unbound 0 = BAD
            has MIN bound 0 = BAD
            has MAX bound 0 = BAD
            has 0 unbound -1 = BAD
            has 0 bound 2 = BAD
            has 0 bound MIN = BAD
            has 0 bound MAX = BAD
            has 0 bound 1 = no
            """),
        Run.of("19 Whether THE GRAPH of a root has a MODULE: the root itself, none backwards", """
            2 times module
            requires 0 1 PLAIN
            has 0 unbound 0 = yes
            has 0 unbound 1 = yes
            has 1 unbound 0 = no
            has 1 bound 1 = yes
            """),
        Run.of("20 BAD: no such MODULE, no such TYPE; whatever k", SERVICE + """
            uses 0 0
            provider -1 0 0 = BAD
            provider 4 0 0 = BAD
            provider MIN 0 0 = BAD
            provider MAX 0 -1 = BAD
            provider 0 -1 0 = BAD
            provider 0 1 0 = BAD
            provider 0 1 -1 = BAD
            provider 0 MIN 0 = BAD
            provider 0 MAX 0 = BAD
            provider 0 0 0 = NONE
            """),
        Run.of("20 NO: the root does not USE it", SERVICE + """
            type 0 1 CLASS open+maker 0 // 1
            provides 0 0 1 = 1
            uses 0 0 = 1
            provider 1 0 0 = NO // one in its GRAPH does, not itself
            provider 1 0 -1 = NO // the first that fits
            provider 1 0 9 = NO
            provider 0 1 0 = NO // another TYPE
            uses 1 0 = 1
            provider 1 0 0 = 1
            """),
        Run.of("20 NONE: not so many, or k below 0", SERVICE + """
            pack 1 1
            3 times type 1 # CLASS open+maker 0 // 1 .. 3
            uses 1 0
            provider 1 0 0 = NONE
            3 times provides 1 0 #+1 = 1
            3 times provider 1 0 # = #+1
            provider 1 0 3 = NONE
            provider 1 0 MAX = NONE
            provider 1 0 -1 = NONE
            provider 1 0 MIN = NONE
            """),
        Run.of("20 by MODULES, of each as it PROVIDES them", SERVICE + """
            requires 3 0 PLAIN
            pack 3 1
            pack 1 1
            2 times type 1 # CLASS open+maker 0 // 1, 2 of MODULE 3
            2 times type 2 # CLASS open+maker 0 // 3, 4 of MODULE 1
            type 0 1 CLASS open+maker 0 // 5 of MODULE 0
            uses 2 0 = 1
            provides 3 0 2 = 1
            provides 1 0 4 = 1
            provides 3 0 1 = 1
            provides 1 0 3 = 1
            provides 1 3 3 = 1 // another SERVICE
            provides 0 0 5 = 1
            provider 2 0 0 = 5
            provider 2 0 1 = 4
            provider 2 0 2 = 3
            provider 2 0 3 = 2
            provider 2 0 4 = 1
            provider 2 0 5 = NONE
            """),
        Run.of("20 in THE GRAPH of a root that is BOUND: a PROVIDER binds its MODULE", SERVICE + """
            pack 3 1
            requires 3 0 STATIC
            type 1 0 CLASS open+maker 0
            provides 3 0 1 = 1
            uses 1 0 = 1
            has 1 unbound 3 = no
            provider 1 0 0 = 1
            """));
}
