import java.util.List;

/** The boundaries of promises 15 to 17: imports of four kinds, what names and members mean. */
final class ImportSentences {
    /**
     * Module 0 requires module 1. Pack 0 (NAME 0) is of module 0, and so is unit 0; packs 1 (NAME 1) and 2
     * (NAME 2) are of module 1, both EXPORTED to all, with the open types 0 and 1 of the NAMES 10 and 11.
     */
    private static final String TWO_MODULES = """
        2 times module
        requires 0 1 PLAIN
        pack 0 0
        pack 1 1
        pack 1 2
        type 1 10 CLASS open NONE
        type 2 11 CLASS open NONE
        exports 1 all export
        exports 2 all export
        unit 0
        """;

    static final List<Run> ALL = List.of(
        Run.of("15 BAD: no such UNIT", TWO_MODULES + """
            imports -1 TYPE 0 0 = BAD
            imports 1 TYPE 0 0 = BAD
            imports MIN TYPE 0 0 = BAD
            imports MAX TYPE 0 0 = BAD
            imports 0 TYPE 0 0 = 1
            """),
        Run.of("15 BAD: IMPORTS of four kinds", TWO_MODULES + """
            imports 0 -1 0 0 = BAD
            imports 0 4 0 0 = BAD
            imports 0 MIN 0 0 = BAD
            imports 0 MAX 0 0 = BAD
            member 0 0 FIELD yes NONE
            4 times imports 0 # 0 0 = #+1
            """),
        Run.of("15 BAD: what is the TYPE (0, 2, 3)", TWO_MODULES + """
            imports 0 TYPE -1 0 = BAD
            imports 0 TYPE 2 0 = BAD
            imports 0 TYPE MIN 0 = BAD
            imports 0 TYPE MAX 0 = BAD
            imports 0 MEMBER -1 0 = BAD
            imports 0 MEMBER 2 0 = BAD
            imports 0 MEMBER MIN 0 = BAD
            imports 0 MEMBER MAX 0 = BAD
            imports 0 MEMBERS -1 0 = BAD
            imports 0 MEMBERS 2 0 = BAD
            imports 0 MEMBERS MIN 0 = BAD
            imports 0 MEMBERS MAX 0 = BAD
            imports 0 MEMBERS 1 0 = 1
            """),
        Run.of("15 BAD: what is the PACKAGE's NAME (1)", TWO_MODULES + """
            imports 0 PACK -1 0 = BAD
            imports 0 PACK 31 0 = BAD
            imports 0 PACK MIN 0 = BAD
            imports 0 PACK MAX 0 = BAD
            imports 0 PACK 30 0 = rule1
            pack 0 30
            imports 0 PACK 30 0 = 1 // a NAME, not a number of a PACKAGE
            imports 0 PACK 3 0 = rule1
            """),
        Run.of("15 BAD: name the NAME (2 alone; else 0)", TWO_MODULES + """
            member 0 0 FIELD yes NONE
            member 0 30 METHOD yes NONE
            imports 0 MEMBER 0 -1 = BAD
            imports 0 MEMBER 0 31 = BAD
            imports 0 MEMBER 0 MIN = BAD
            imports 0 MEMBER 0 MAX = BAD
            imports 0 TYPE 0 1 = BAD
            imports 0 TYPE 0 -1 = BAD
            imports 0 PACK 1 1 = BAD
            imports 0 PACK 1 -1 = BAD
            imports 0 MEMBERS 0 1 = BAD
            imports 0 MEMBERS 0 -1 = BAD
            imports 0 MEMBER 0 0 = 1
            imports 0 MEMBER 0 30 = 2
            """),
        Run.of("15 how many the UNIT has", TWO_MODULES + """
            unit 1
            imports 0 TYPE 0 0 = 1
            imports 0 TYPE 1 0 = 2
            imports 1 TYPE 1 0 = 1 // each UNIT has its own
            imports 0 PACK 1 0 = 3
            imports 0 PACK 1 0 = rule3
            imports 0 PACK 2 0 = 4 // what is refused does not count
            imports 1 PACK 2 0 = 2
            """),
        Run.of("15 FULL: above 10", TWO_MODULES + """
            unit 0
            12 times type 0 # CLASS open NONE // 2 .. 13
            10 times imports 0 TYPE #+2 0 = #+1
            imports 0 TYPE 12 0 = FULL
            imports 0 TYPE 13 0 = FULL
            10 times meaning 0 # = #+2
            imports 1 TYPE 12 0 = 1 // another UNIT is not full
            9 times imports 1 TYPE #+2 0 = #+2
            imports 1 TYPE 13 0 = FULL
            meaning 1 10 = 12
            """),
        Run.of("15 FULL: above 10, of the last UNIT, too", TWO_MODULES + """
            11 times unit 0 = #+1
            10 times type 0 # CLASS open NONE
            10 times imports 11 MEMBERS #+2 0 = #+1
            imports 11 MEMBERS 0 0 = FULL
            member 11 7 METHOD yes NONE = 0
            memberOf 11 7 METHOD = 0 // by the tenth
            memberOf 10 7 METHOD = NONE
            """),
        Run.of("15 the first that fits: BAD, FULL, RULES", TWO_MODULES + """
            10 times type 0 # CLASS open NONE // 2 .. 11
            type 1 0 CLASS open NONE // 12
            type 1 12 CLASS closed NONE // 13
            10 times imports 0 TYPE #+2 0
            imports 0 TYPE 14 0 = BAD
            imports 0 TYPE 2 1 = BAD
            imports 0 4 2 0 = BAD
            imports 0 PACK 31 0 = BAD
            imports 0 TYPE 13 0 = FULL // not rule 1
            imports 0 PACK 30 0 = FULL // not rule 1
            imports 0 TYPE 12 0 = FULL // not rule 2
            imports 0 MEMBER 2 0 = FULL // not rule 2
            imports 0 TYPE 2 0 = FULL // not rule 3
            """),
        Run.of("15 rule 1: the MODULE does not SEE the TYPE (0, 2, 3): its PACKAGE is not EXPORTED", TWO_MODULES + """
            pack 1 3
            type 3 0 CLASS open NONE // 2
            member 2 5 FIELD yes NONE
            imports 0 TYPE 2 0 = rule1
            imports 0 MEMBER 2 5 = rule1
            imports 0 MEMBERS 2 0 = rule1
            exports 3 all opened
            imports 0 TYPE 2 0 = rule1
            exports 3 0 export
            imports 0 TYPE 2 0 = 1
            imports 0 MEMBER 2 5 = 2
            imports 0 MEMBERS 2 0 = 3
            """),
        Run.of("15 rule 1: the MODULE does not SEE the TYPE (0, 2, 3): it is not OPEN", TWO_MODULES + """
            type 1 0 CLASS maker NONE // 2
            member 2 5 FIELD yes NONE
            unit 2 // 1, of the TYPE's MODULE
            imports 0 TYPE 2 0 = rule1
            imports 0 MEMBER 2 5 = rule1
            imports 0 MEMBERS 2 0 = rule1
            imports 1 TYPE 2 0 = 1
            imports 1 MEMBER 2 5 = 2
            imports 1 MEMBERS 2 0 = 3
            """),
        Run.of("15 rule 1: the MODULE does not SEE the TYPE (0, 2, 3): it is not READ", TWO_MODULES + """
            module
            pack 2 0
            unit 3 // 1, of MODULE 2
            member 0 5 FIELD yes NONE
            imports 1 TYPE 0 0 = rule1
            imports 1 MEMBER 0 5 = rule1
            imports 1 MEMBERS 0 0 = rule1
            imports 1 PACK 1 0 = rule1
            requires 2 1 STATIC
            imports 1 TYPE 0 0 = 1
            imports 1 MEMBER 0 5 = 2
            imports 1 MEMBERS 0 0 = 3
            imports 1 PACK 1 0 = 4
            """),
        Run.of("15 rule 1: no PACKAGE that it SEES has the NAME (1)", TWO_MODULES + """
            imports 0 PACK 3 0 = rule1
            pack 1 3
            imports 0 PACK 3 0 = rule1 // it does not SEE it
            type 3 0 CLASS closed NONE
            exports 3 all export
            imports 0 PACK 3 0 = 1 // though it SEES no TYPE of it
            imports 0 PACK 0 0 = 2 // the UNIT's own, without TYPES
            pack 0 4
            imports 0 PACK 4 0 = 3 // another one of its MODULE, without TYPES
            """),
        Run.of("15 rule 1: no PACKAGE that it SEES has the NAME (1), of the NAME 0, too", """
            module
            pack 0 5
            unit 0
            imports 0 PACK 0 0 = rule1
            """),
        Run.of("15 rule 1: no PACKAGE that it SEES has the NAME (1), of thirty", """
            module
            30 times pack 0 #+1
            unit 0
            imports 0 PACK 0 0 = rule1
            imports 0 PACK 30 0 = 1
            """),
        Run.of("15 rule 2 of 0: another TYPE of this NAME is imported so", TWO_MODULES + """
            type 2 10 CLASS open NONE // 2
            type 0 10 CLASS open NONE // 3
            imports 0 TYPE 0 0 = 1
            imports 0 TYPE 2 0 = rule2
            imports 0 TYPE 3 0 = rule2 // its own PACKAGE's, too
            imports 0 TYPE 1 0 = 2
            imports 0 TYPE 2 0 = rule2
            imports 0 TYPE 0 0 = rule3 // itself is not another one
            meaning 0 10 = 0
            """),
        Run.of("15 rule 2 of 0: so: by IMPORT 0, in this UNIT", TWO_MODULES + """
            type 2 10 CLASS open NONE // 2
            member 0 5 FIELD yes NONE
            unit 0
            imports 1 TYPE 0 0 = 1
            imports 0 PACK 1 0 = 1
            imports 0 MEMBER 0 5 = 2
            imports 0 MEMBERS 0 0 = 3
            imports 0 TYPE 2 0 = 4
            imports 0 TYPE 0 0 = rule2
            """),
        Run.of("15 rule 1 before rule 2 of 0", TWO_MODULES + """
            type 2 10 CLASS closed NONE // 2
            imports 0 TYPE 0 0 = 1
            imports 0 TYPE 2 0 = rule1
            """),
        Run.of("15 rule 2 of 2: the TYPE has no MEMBER (FIELD, METHOD) of the NAME", TWO_MODULES + """
            type 1 0 CLASS open 0 // 2, a child of 0
            imports 0 MEMBER 0 5 = rule2
            member 2 5 FIELD yes NONE
            imports 0 MEMBER 0 5 = rule2 // a child's
            member 1 5 FIELD yes NONE
            imports 0 MEMBER 0 5 = rule2 // another TYPE's
            member 0 6 FIELD yes NONE
            imports 0 MEMBER 0 5 = rule2 // another NAME
            member 0 5 METHOD yes NONE
            imports 0 MEMBER 0 5 = 1 // a METHOD alone
            imports 0 MEMBER 0 6 = 2 // a FIELD alone
            imports 0 MEMBER 2 6 = 3 // a parent's
            """),
        Run.of("15 rule 2 of 2: that may be used there", TWO_MODULES + """
            unit 2 // 1, of the TYPE's MODULE, another PACKAGE
            member 0 5 FIELD no NONE
            imports 0 MEMBER 0 5 = rule2
            imports 1 MEMBER 0 5 = 1
            member 0 5 METHOD yes NONE
            imports 0 MEMBER 0 5 = 1 // one of both is enough
            """),
        Run.of("15 rule 2 of 2: also if the one nearer by may not be used", TWO_MODULES + """
            type 1 0 CLASS open 0 // 2, a child of 0
            member 0 5 FIELD yes NONE
            member 2 5 FIELD no NONE
            imports 0 MEMBER 2 5 = rule2
            imports 0 MEMBER 0 5 = 1
            member 0 5 METHOD yes NONE
            imports 0 MEMBER 2 5 = 2 // a FIELD hides no METHOD
            """),
        Run.of("15 rule 1 before rule 2 of 2", TWO_MODULES + """
            type 1 0 CLASS closed NONE // 2
            imports 0 MEMBER 2 5 = rule1
            """),
        Run.of("15 rule 2 of 2 is not of 3", TWO_MODULES + """
            imports 0 MEMBERS 0 0 = 1 // without MEMBERS
            """),
        Run.of("15 rule 3: the same IMPORT stands there (told; not added)", TWO_MODULES + """
            2 times member 0 # FIELD yes NONE
            member 1 0 FIELD yes NONE
            imports 0 TYPE 0 0 = 1
            imports 0 TYPE 0 0 = rule3
            imports 0 PACK 0 0 = 2
            imports 0 PACK 0 0 = rule3
            imports 0 MEMBER 0 0 = 3
            imports 0 MEMBER 0 0 = rule3
            imports 0 MEMBERS 0 0 = 4
            imports 0 MEMBERS 0 0 = rule3
            imports 0 TYPE 0 0 = rule3 // not the last one alone
            imports 0 TYPE 1 0 = 5 // another TYPE, NAME
            imports 0 PACK 1 0 = 6
            imports 0 MEMBER 0 1 = 7
            imports 0 MEMBER 1 0 = 8
            imports 0 MEMBERS 1 0 = 9
            unit 0
            imports 1 TYPE 0 0 = 1 // another UNIT
            """),
        Run.of("15 rule 2 before rule 3", TWO_MODULES + """
            type 1 0 CLASS open 0 // 2, a child of 0
            member 0 5 FIELD yes NONE
            imports 0 MEMBER 2 5 = 1
            imports 0 MEMBER 2 5 = rule3
            member 2 5 FIELD no NONE // hides it
            imports 0 MEMBER 2 5 = rule2
            """),
        Run.of("16 BAD: no such UNIT; a NAME is 0 .. 30", TWO_MODULES + """
            meaning -1 0 = BAD
            meaning 1 0 = BAD
            meaning MIN 0 = BAD
            meaning MAX 0 = BAD
            meaning 0 -1 = BAD
            meaning 0 31 = BAD
            meaning 0 MIN = BAD
            meaning 0 MAX = BAD
            meaning 0 0 = NONE
            meaning 0 30 = NONE
            type 0 30 CLASS closed NONE
            meaning 0 30 = 2
            """),
        Run.of("16 NONE: no IMPORT, no TYPE of its own PACKAGE", TWO_MODULES + """
            meaning 0 10 = NONE // seen, but not imported
            pack 0 5
            type 3 10 CLASS open NONE // of its MODULE, not of its PACKAGE
            meaning 0 10 = NONE
            member 0 0 FIELD yes NONE
            imports 0 MEMBERS 0 0 = 1
            imports 0 MEMBER 0 0 = 2
            meaning 0 10 = NONE // MEMBERS alone
            imports 0 PACK 2 0 = 3
            meaning 0 10 = NONE // another PACKAGE
            imports 0 TYPE 1 0 = 4
            meaning 0 10 = NONE // another TYPE
            """),
        Run.of("16 NONE: no TYPE of the NAME 0, in a PACKAGE that is imported", """
            module
            2 times pack 0 #
            unit 1
            imports 0 PACK 0 0 = 1
            meaning 0 0 = NONE
            type 0 1 CLASS open NONE
            meaning 0 0 = NONE
            type 0 0 CLASS open NONE
            meaning 0 0 = 1
            """),
        Run.of("16 NONE: no TYPE of the NAME, of forty", """
            module
            3 times pack 0 #
            unit 2
            imports 0 PACK 0 0 = 1
            imports 0 PACK 1 0 = 2
            30 times type 0 # CLASS open NONE = #
            10 times type 1 #+20 CLASS open NONE = #+30
            meaning 0 30 = NONE
            meaning 0 0 = 0
            meaning 0 20 = TWO
            meaning 0 29 = TWO
            """),
        Run.of("16 the TYPE of IMPORT 0; else the TYPE of its own PACKAGE; else of IMPORTS 1", TWO_MODULES + """
            type 2 10 CLASS open NONE // 2
            imports 0 PACK 1 0 = 1
            meaning 0 10 = 0
            type 0 10 CLASS closed NONE // 3
            meaning 0 10 = 3
            imports 0 PACK 2 0 = 2
            meaning 0 10 = 3 // though there would be two
            imports 0 TYPE 2 0 = 3
            meaning 0 10 = 2
            """),
        Run.of("16 TWO, if there are two, in PACKAGES of two NAMES", TWO_MODULES + """
            type 2 10 CLASS open NONE // 2
            imports 0 PACK 1 0 = 1
            meaning 0 10 = 0
            imports 0 PACK 2 0 = 2
            meaning 0 10 = TWO
            meaning 0 11 = 1 // another NAME stays one
            pack 0 3
            type 3 10 CLASS closed NONE // 3
            imports 0 PACK 3 0 = 3
            meaning 0 10 = TWO // three
            """),
        Run.of("16 TWO, if there are two, in PACKAGES of one NAME (in two MODULES)", TWO_MODULES + """
            module
            pack 2 1
            type 3 10 CLASS open NONE // 2
            exports 3 all export
            imports 0 PACK 1 0 = 1
            meaning 0 10 = 0 // it does not READ the other
            requires 0 2 STATIC
            meaning 0 10 = TWO
            """),
        Run.of("16 that the MODULE SEES", TWO_MODULES + """
            type 2 10 CLASS maker NONE // 2, not OPEN
            imports 0 PACK 1 0 = 1
            imports 0 PACK 2 0 = 2
            meaning 0 10 = 0
            type 2 12 CLASS closed NONE // 3
            meaning 0 12 = NONE
            pack 0 2
            type 3 12 CLASS closed NONE // 4, not OPEN, but its MODULE's own
            meaning 0 12 = 4
            """),
        Run.of("17 BAD: no such UNIT; a NAME is 0 .. 30; 0 a FIELD, 1 a METHOD", TWO_MODULES + """
            memberOf -1 0 FIELD = BAD
            memberOf 1 0 FIELD = BAD
            memberOf MIN 0 FIELD = BAD
            memberOf MAX 0 FIELD = BAD
            memberOf 0 -1 FIELD = BAD
            memberOf 0 31 FIELD = BAD
            memberOf 0 MIN FIELD = BAD
            memberOf 0 MAX FIELD = BAD
            memberOf 0 0 -1 = BAD
            memberOf 0 0 2 = BAD
            memberOf 0 0 MIN = BAD
            memberOf 0 0 MAX = BAD
            member 0 0 FIELD yes NONE
            member 0 30 METHOD yes NONE
            imports 0 MEMBERS 0 0
            memberOf 0 0 FIELD = 0
            memberOf 0 30 METHOD = 1
            memberOf 0 0 METHOD = NONE
            """),
        Run.of("17 NONE: no IMPORT of it", TWO_MODULES + """
            member 0 5 FIELD yes NONE
            member 0 6 FIELD yes NONE
            type 0 0 CLASS open NONE // 2
            member 2 5 FIELD yes NONE
            memberOf 0 5 FIELD = NONE // its own PACKAGE's is none
            imports 0 TYPE 0 0 = 1
            imports 0 PACK 1 0 = 2
            memberOf 0 5 FIELD = NONE // IMPORTS of TYPES
            imports 0 MEMBER 0 6 = 3
            memberOf 0 5 FIELD = NONE // of another NAME
            memberOf 0 6 METHOD = NONE // of another kind
            memberOf 0 6 FIELD = 1
            """),
        Run.of("17 A MEMBER may be used in a UNIT, if it is OPEN, or of a PACKAGE of the UNIT's MODULE", TWO_MODULES + """
            unit 2 // 1, of the TYPE's MODULE, another PACKAGE
            member 0 5 FIELD yes NONE
            member 0 6 FIELD no NONE
            2 times imports # MEMBERS 0 0 = 1
            memberOf 0 5 FIELD = 0
            memberOf 0 6 FIELD = NONE
            memberOf 1 5 FIELD = 0
            memberOf 1 6 FIELD = 1
            """),
        Run.of("17 its TYPE: the one that has it, not the one that is imported", TWO_MODULES + """
            type 0 0 CLASS open 0 // 2, of the UNIT's MODULE, a child of 0
            type 1 0 CLASS open 2 // 3, of the other MODULE, a child of 2
            member 0 5 FIELD no NONE
            member 2 6 FIELD no NONE
            imports 0 MEMBERS 2 0 = 1
            memberOf 0 5 FIELD = NONE
            memberOf 0 6 FIELD = 1
            imports 0 MEMBER 3 6 = 2
            memberOf 0 6 FIELD = 1
            imports 0 MEMBER 3 5 = rule2
            """),
        Run.of("17 but for what has the NAME and kind of one nearer by (also if that may not be used)", TWO_MODULES + """
            type 1 0 CLASS open 0 // 2, a child of 0
            type 1 1 CLASS open 2 // 3, a child of 2
            member 0 5 FIELD yes NONE
            member 0 5 METHOD yes NONE
            imports 0 MEMBERS 3 0 = 1
            memberOf 0 5 FIELD = 0
            member 2 5 FIELD yes NONE
            memberOf 0 5 FIELD = 2
            memberOf 0 5 METHOD = 1 // the other kind
            member 3 5 FIELD no NONE
            memberOf 0 5 FIELD = NONE
            memberOf 0 5 METHOD = 1
            """),
        Run.of("17 those of its parents: the longest line", """
            module
            2 times pack 0 #
            unit 0
            20 times type 0 # CLASS open #-1 = #
            20 times type 1 # CLASS open #+19 = #+20
            member 0 5 METHOD yes NONE
            imports 0 MEMBER 39 5 = 1
            memberOf 0 5 METHOD = 0
            """),
        Run.of("17 of IMPORTS 2 of that NAME; if there is none, of IMPORTS 3", TWO_MODULES + """
            2 times member # 5 FIELD yes NONE // 0, 1
            2 times member # 6 FIELD yes NONE // 2, 3
            2 times member # 7 METHOD yes NONE // 4, 5
            imports 0 MEMBERS 0 0 = 1
            memberOf 0 5 FIELD = 0
            imports 0 MEMBER 1 5 = 2
            memberOf 0 5 FIELD = 1
            memberOf 0 6 FIELD = 2 // IMPORT 2 is of another NAME
            memberOf 0 7 METHOD = 4
            imports 0 MEMBER 1 7 = 3
            memberOf 0 7 METHOD = 5
            """),
        Run.of("17 if there is none of that kind, of IMPORTS 3", TWO_MODULES + """
            member 0 5 FIELD yes NONE // 0
            member 1 5 METHOD yes NONE // 1
            imports 0 MEMBER 0 5 = 1
            imports 0 MEMBERS 1 0 = 2
            memberOf 0 5 FIELD = 0
            memberOf 0 5 METHOD = 1
            """),
        Run.of("17 if there is none that may be used there, of IMPORTS 3", TWO_MODULES + """
            type 1 0 CLASS open 0 // 2, a child of 0
            member 0 5 FIELD yes NONE // 0
            member 1 5 FIELD yes NONE // 1
            imports 0 MEMBER 2 5 = 1
            imports 0 MEMBERS 1 0 = 2
            memberOf 0 5 FIELD = 0
            member 2 5 FIELD no NONE // hides it
            memberOf 0 5 FIELD = 1
            """),
        Run.of("17 TWO: of FIELDS that are two, of IMPORTS 2", TWO_MODULES + """
            2 times member # 5 FIELD yes NONE // 0, 1
            imports 0 MEMBER 0 5 = 1
            memberOf 0 5 FIELD = 0
            imports 0 MEMBER 1 5 = 2
            memberOf 0 5 FIELD = TWO
            type 0 0 CLASS open NONE // 2
            member 2 5 FIELD yes NONE
            imports 0 MEMBER 2 5 = 3
            memberOf 0 5 FIELD = TWO // three
            """),
        Run.of("17 TWO: of FIELDS that are two, of IMPORTS 3", TWO_MODULES + """
            2 times member # 5 FIELD yes NONE // 0, 1
            2 times imports 0 MEMBERS # 0
            memberOf 0 5 FIELD = TWO
            imports 0 MEMBER 0 5 = 3
            memberOf 0 5 FIELD = 0 // of IMPORTS 2 there is one
            """),
        Run.of("17 TWO: one FIELD by two IMPORTS is not two", TWO_MODULES + """
            type 1 0 CLASS open 0 // 2, a child of 0
            type 1 1 CLASS open 0 // 3, a child of 0
            member 0 5 FIELD yes NONE // 0
            imports 0 MEMBERS 2 0 = 1
            imports 0 MEMBERS 0 0 = 2
            imports 0 MEMBERS 3 0 = 3
            memberOf 0 5 FIELD = 0
            imports 0 MEMBER 3 5 = 4
            imports 0 MEMBER 2 5 = 5
            memberOf 0 5 FIELD = 0
            """),
        Run.of("17 TWO: a FIELD that may not be used does not count", TWO_MODULES + """
            member 0 5 FIELD no NONE // 0
            member 1 5 FIELD yes NONE // 1
            2 times imports 0 MEMBERS # 0
            memberOf 0 5 FIELD = 1
            """),
        Run.of("17 of METHODS it is that of the first such IMPORT (in their order)", TWO_MODULES + """
            type 0 0 CLASS open NONE // 2
            member 0 5 METHOD yes NONE // 0
            member 1 5 METHOD no NONE // 1
            member 2 5 METHOD yes NONE // 2
            imports 0 MEMBERS 1 0 = 1 // may not be used
            imports 0 MEMBERS 2 0 = 2
            imports 0 MEMBERS 0 0 = 3
            memberOf 0 5 METHOD = 2
            imports 0 MEMBER 0 5 = 4
            memberOf 0 5 METHOD = 0
            imports 0 MEMBER 2 5 = 5
            memberOf 0 5 METHOD = 0
            """));
}
