import java.util.List;

/** The boundaries of promises 1 to 5, 14 and 24: what is there, its numbers, where it is full. */
final class BuildSentences {
    static final List<Run> ALL = List.of(
        Run.of("1 Nothing is there", """
            6 times count # = 0
            pack 0 0 = BAD
            type 0 0 CLASS open NONE = BAD
            member 0 0 FIELD yes NONE = BAD
            requires 0 0 PLAIN = BAD
            exports 0 all export = BAD
            exports 0 all opened = BAD
            uses 0 0 = BAD
            provides 0 0 0 = BAD
            reads 0 0 compiled = BAD
            reads 0 0 run = BAD
            sees 0 0 pack = BAD
            sees 0 0 type = BAD
            looks 0 0 = BAD
            split 0 = BAD
            unit 0 = BAD
            4 times imports 0 # 0 0 = BAD
            meaning 0 0 = BAD
            memberOf 0 0 FIELD = BAD
            graph 0 unbound = BAD
            has 0 bound 0 = BAD
            provider 0 0 0 = BAD
            layer NONE 0 unbound = BAD
            loader 0 0 = BAD
            finds 0 0 0 0 = BAD
            6 times count # = 0
            """),
        Run.of("What it is: used for at most 512 calls; the last is answered like the first", """
            12 times module = #
            30 times pack 0 # = #
            31 times type 0 # CLASS open+maker NONE = #
            9 times type 1 # CLASS open+maker NONE = #+31
            30 times member 0 # FIELD yes NONE = #
            30 times member 1 # FIELD yes NONE = #+30
            12 times unit 0 = #
            40 times uses 0 # = 1
            40 times provides 0 # # = 1
            40 times provider 0 # 0 = #
            40 times sees 0 # type = yes
            11 times requires 0 #+1 ON = 1
            30 times exports # all opened = 1
            12 times has 0 unbound # = yes
            4 times layer NONE # unbound = #
            12 times loader 0 # = 0
            31 times finds 0 0 0 # = #
            31 times meaning 0 # = #
            imports 0 MEMBERS 0 0 = 1
            30 times memberOf 0 # FIELD = #
            12 times looks 0 # = yes
            12 times split # = NONE
            12 times reads 0 # run = yes
            """),
        Run.of("Terms: what is refused changes nothing, where all is FULL", """
            12 times module
            11 times requires # #+1 ON
            30 times pack 0 #
            31 times type 0 # CLASS open+maker NONE
            9 times type 1 # CLASS open+maker NONE
            30 times member 0 # FIELD yes NONE
            30 times member 1 # FIELD yes NONE
            12 times unit 0
            10 times imports 0 TYPE # 0
            exports 0 all export
            uses 0 0
            provides 0 0 0
            layer NONE 11 unbound
            layer 0 9 unbound
            layer 1 4 unbound
            layer NONE 4 unbound
            module = FULL
            pack 0 30 = FULL
            type 1 9 CLASS open NONE = FULL
            member 1 30 FIELD yes NONE = FULL
            unit 1 = FULL
            imports 0 TYPE 10 0 = FULL
            layer NONE 0 bound = FULL
            count 0 = 12
            count 1 = 30
            count 2 = 40
            count 3 = 60
            count 4 = 12
            count 5 = 4
            """),
        Run.of("2 A MODULE: its number, as they come, from 0", """
            module = 0
            module = 1
            module = 2
            count 0 = 3
            """),
        Run.of("2 FULL: above 12", """
            12 times module = #
            module = FULL
            module = FULL
            count 0 = 12
            graph 11 unbound = 1
            graph 12 unbound = BAD
            """),
        Run.of("3 A PACKAGE of a MODULE: its number, as they come, from 0, whosever they are", """
            2 times module
            pack 1 4 = 0
            pack 0 4 = 1
            pack 1 5 = 2
            count 1 = 3
            looks 1 0 = yes
            looks 1 1 = no
            looks 1 2 = yes
            """),
        Run.of("3 BAD: a NAME is 0 .. 30", """
            module
            pack 0 -1 = BAD
            pack 0 31 = BAD
            pack 0 MIN = BAD
            pack 0 MAX = BAD
            pack 0 0 = 0
            pack 0 30 = 1
            """),
        Run.of("3 BAD: no such MODULE", """
            2 times module
            pack -1 0 = BAD
            pack 2 0 = BAD
            pack MIN 0 = BAD
            pack MAX 0 = BAD
            pack 1 0 = 0
            """),
        Run.of("3 NO: it has one of that NAME", """
            2 times module
            pack 0 7 = 0
            pack 0 7 = NO
            pack 1 7 = 1 // another MODULE may have it, too
            pack 0 8 = 2
            pack 0 7 = NO // not only the last one counts
            count 1 = 3
            """),
        Run.of("3 FULL: above 30, in one MODULE", """
            module
            30 times pack 0 # = #
            pack 0 30 = FULL
            pack 0 30 = FULL
            count 1 = 30
            looks 0 29 = yes
            looks 0 30 = BAD
            """),
        Run.of("3 FULL: above 30, of all MODULES together", """
            4 times module
            10 times pack 0 # = #
            10 times pack 1 # = #+10
            10 times pack 2 # = #+20
            pack 3 0 = FULL
            pack 0 10 = FULL
            """),
        Run.of("3 the first that fits: BAD, NO, FULL", """
            module
            pack 0 0
            pack 1 0 = BAD
            29 times pack 0 #+1
            pack 0 31 = BAD
            pack 1 30 = BAD
            pack 0 0 = NO
            pack 0 30 = FULL
            """),
        Run.of("4 A TYPE: its number, as they come, from 0, whosever they are", """
            2 times module
            pack 0 0
            pack 1 0
            type 1 3 CLASS open NONE = 0
            type 0 3 CLASS open NONE = 1
            type 1 4 CLASS open NONE = 2
            count 2 = 3
            """),
        Run.of("4 BAD: a NAME is 0 .. 30", """
            module
            pack 0 0
            type 0 -1 CLASS open NONE = BAD
            type 0 31 CLASS open NONE = BAD
            type 0 MIN CLASS open NONE = BAD
            type 0 MAX CLASS open NONE = BAD
            type 0 0 CLASS open NONE = 0
            type 0 30 CLASS open NONE = 1
            """),
        Run.of("4 BAD: no such PACKAGE", """
            2 times module
            pack 0 0
            type -1 0 CLASS open NONE = BAD
            type 1 0 CLASS open NONE = BAD // a MODULE's number, not a PACKAGE's
            type MIN 0 CLASS open NONE = BAD
            type MAX 0 CLASS open NONE = BAD
            """),
        Run.of("4 BAD: a KIND is 0 CLASS, 1 ABSTRACT CLASS, 2 FACE, 3 INNER CLASS", """
            module
            pack 0 0
            type 0 0 -1 open+maker NONE = BAD
            type 0 0 4 open+maker NONE = BAD
            type 0 0 MIN open+maker NONE = BAD
            type 0 0 MAX open+maker NONE = BAD
            4 times type 0 # # open+maker NONE = #
            provides 0 0 0 = 1
            provides 0 1 1 = rule5
            provides 0 2 2 = rule5
            provides 0 3 3 = rule5
            """),
        Run.of("4 BAD: flags: 1 OPEN, 2 MAKER (together 3)", """
            2 times module
            requires 1 0 PLAIN
            pack 0 0
            type 0 0 CLASS -1 NONE = BAD
            type 0 0 CLASS 4 NONE = BAD
            type 0 0 CLASS 5 NONE = BAD
            type 0 0 CLASS MIN NONE = BAD
            type 0 0 CLASS MAX NONE = BAD
            4 times type 0 # CLASS # NONE = #
            exports 0 all export
            sees 1 0 type = no
            sees 1 1 type = yes
            sees 1 2 type = no
            sees 1 3 type = yes
            provides 0 0 0 = rule3
            provides 0 1 1 = rule6
            provides 0 2 2 = rule3
            provides 0 3 3 = 1
            """),
        Run.of("4 BAD: a parent is a TYPE that came before, or none", """
            module
            pack 0 0
            type 0 0 CLASS open+maker 0 = BAD // itself
            type 0 0 CLASS open+maker -2 = BAD
            type 0 0 CLASS open+maker NONE = 0
            type 0 1 CLASS open+maker 1 = BAD // itself
            type 0 1 CLASS open+maker 2 = BAD
            type 0 1 CLASS open+maker MIN = BAD
            type 0 1 CLASS open+maker MAX = BAD
            type 0 1 CLASS open+maker 0 = 1
            type 0 2 CLASS open+maker 1 = 2
            provides 0 0 2 = 1
            """),
        Run.of("4 it is a SUBTYPE of itself, its parent, that one's parent, and on", """
            module
            2 times pack 0 #
            20 times type 0 # CLASS open+maker #-1 = #
            20 times type 1 # CLASS open+maker #+19 = #+20
            40 times provides 0 # 39 = 1
            provides 0 39 38 = rule7
            provides 0 1 0 = rule7
            """),
        Run.of("4 NO: the PACKAGE has one of that NAME", """
            module
            2 times pack 0 #
            type 0 7 CLASS open NONE = 0
            type 0 7 FACE closed 0 = NO
            type 1 7 CLASS open NONE = 1 // another PACKAGE may have it, too
            type 0 8 CLASS open NONE = 2
            type 0 7 CLASS open NONE = NO
            count 2 = 3
            """),
        Run.of("4 FULL: above 40", """
            module
            2 times pack 0 #
            31 times type 0 # CLASS open NONE = #
            9 times type 1 # CLASS open NONE = #+31
            type 1 9 CLASS open NONE = FULL
            type 1 9 CLASS open NONE = FULL
            count 2 = 40
            sees 0 39 type = yes
            sees 0 40 type = BAD
            """),
        Run.of("4 the first that fits: BAD, NO, FULL", """
            module
            2 times pack 0 #
            type 0 0 CLASS open NONE
            type 0 0 4 open NONE = BAD
            type 0 0 CLASS 4 NONE = BAD
            type 0 0 CLASS open 1 = BAD
            30 times type 0 #+1 CLASS open NONE
            9 times type 1 # CLASS open NONE
            type 1 31 CLASS open NONE = BAD
            type 2 9 CLASS open NONE = BAD
            type 1 9 4 open NONE = BAD
            type 1 9 CLASS 4 NONE = BAD
            type 1 9 CLASS open 40 = BAD
            type 1 8 CLASS open NONE = NO
            type 1 9 CLASS open 39 = FULL
            """),
        Run.of("5 A MEMBER: its number, as they come, from 0, whosever they are", """
            module
            pack 0 0
            2 times type 0 # CLASS open NONE
            member 1 3 FIELD yes NONE = 0
            member 0 3 METHOD yes NONE = 1
            member 1 4 FIELD yes NONE = 2
            count 3 = 3
            """),
        Run.of("5 BAD: a NAME is 0 .. 30", """
            module
            pack 0 0
            type 0 0 CLASS open NONE
            member 0 -1 FIELD yes NONE = BAD
            member 0 31 FIELD yes NONE = BAD
            member 0 MIN FIELD yes NONE = BAD
            member 0 MAX FIELD yes NONE = BAD
            member 0 0 FIELD yes NONE = 0
            member 0 30 FIELD yes NONE = 1
            """),
        Run.of("5 BAD: no such TYPE", """
            2 times module
            2 times pack 0 #
            type 0 0 CLASS open NONE
            member -1 0 FIELD yes NONE = BAD
            member 1 0 FIELD yes NONE = BAD
            member MIN 0 FIELD yes NONE = BAD
            member MAX 0 FIELD yes NONE = BAD
            """),
        Run.of("5 BAD: 0 a FIELD, 1 a METHOD", """
            module
            pack 0 0
            type 0 0 CLASS open NONE
            unit 0
            member 0 0 -1 yes NONE = BAD
            member 0 0 2 yes NONE = BAD
            member 0 0 MIN yes NONE = BAD
            member 0 0 MAX yes NONE = BAD
            member 0 5 0 yes NONE = 0
            member 0 5 1 yes NONE = 1
            imports 0 MEMBER 0 5 = 1
            memberOf 0 5 FIELD = 0
            memberOf 0 5 METHOD = 1
            """),
        Run.of("5 BAD: gives: a TYPE, or NONE", """
            module
            pack 0 0
            type 0 0 CLASS open NONE
            member 0 0 METHOD yes -2 = BAD
            member 0 0 METHOD yes 1 = BAD
            member 0 0 METHOD yes MIN = BAD
            member 0 0 METHOD yes MAX = BAD
            member 0 0 METHOD yes 0 = 0
            member 0 1 METHOD yes NONE = 1
            member 0 0 FIELD no 0 = 2
            type 0 1 CLASS open NONE
            member 1 0 METHOD yes 1 = 3 // the last TYPE there is
            member 1 1 METHOD yes 2 = BAD
            """),
        Run.of("5 NO: the TYPE has one of that NAME and kind", """
            module
            pack 0 0
            2 times type 0 # CLASS open #-1
            member 0 7 FIELD yes NONE = 0
            member 0 7 FIELD no 0 = NO
            member 0 7 METHOD yes NONE = 1 // the other kind may have it, too
            member 1 7 FIELD yes NONE = 2 // and another TYPE, though it is a parent's
            member 0 8 FIELD yes NONE = 3
            member 0 7 METHOD no NONE = NO
            member 0 7 FIELD yes NONE = NO
            count 3 = 4
            """),
        Run.of("5 FULL: above 60", """
            module
            pack 0 0
            2 times type 0 # CLASS open NONE
            31 times member 0 # FIELD yes NONE = #
            29 times member 1 # METHOD yes NONE = #+31
            member 1 29 METHOD yes NONE = FULL
            member 0 0 METHOD yes NONE = FULL
            count 3 = 60
            """),
        Run.of("5 the first that fits: BAD, NO, FULL", """
            module
            pack 0 0
            2 times type 0 # CLASS open NONE
            member 0 0 FIELD yes NONE
            member 0 0 FIELD yes 2 = BAD
            30 times member 0 #+1 FIELD yes NONE
            29 times member 1 # METHOD yes NONE
            member 2 29 METHOD yes NONE = BAD
            member 1 31 METHOD yes NONE = BAD
            member 1 29 2 yes NONE = BAD
            member 1 29 METHOD yes 2 = BAD
            member 1 28 METHOD yes NONE = NO
            member 1 29 METHOD yes NONE = FULL
            """),
        Run.of("14 A UNIT of a PACKAGE: its number, as they come, from 0, whosever they are", """
            module
            2 times pack 0 #
            type 1 5 CLASS open NONE
            unit 1 = 0
            unit 0 = 1
            unit 1 = 2
            count 4 = 3
            meaning 0 5 = 0
            meaning 1 5 = NONE
            meaning 2 5 = 0
            """),
        Run.of("14 BAD: no such PACKAGE", """
            2 times module
            pack 0 0
            unit -1 = BAD
            unit 1 = BAD
            unit MIN = BAD
            unit MAX = BAD
            unit 0 = 0
            """),
        Run.of("14 FULL: above 12, of all PACKAGES together", """
            module
            2 times pack 0 #
            6 times unit 0 = #
            6 times unit 1 = #+6
            unit 0 = FULL
            unit 1 = FULL
            unit 2 = BAD // the first that fits
            count 4 = 12
            meaning 11 0 = NONE
            meaning 12 0 = BAD
            """),
        Run.of("24 0 MODULES, 1 PACKAGES, 2 TYPES, 3 MEMBERS, 4 UNITS, 5 LAYERS", """
            6 times module
            5 times pack 0 #
            4 times type 0 # CLASS open NONE
            3 times member 0 # FIELD yes NONE
            2 times unit 0
            layer NONE 0 unbound
            count 0 = 6
            count 1 = 5
            count 2 = 4
            count 3 = 3
            count 4 = 2
            count 5 = 1
            """),
        Run.of("24 BAD", """
            module
            count -1 = BAD
            count 6 = BAD
            count MIN = BAD
            count MAX = BAD
            count 0 = 1
            """));
}
