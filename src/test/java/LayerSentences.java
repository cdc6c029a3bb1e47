import java.util.List;

/** The boundaries of promises 21 to 23: layers, loaders and what modules find. */
final class LayerSentences {
    static final List<Run> ALL = List.of(
        Run.of("21 A LAYER: its number, as they come, from 0", """
            2 times module
            layer NONE 1 unbound = 0
            layer NONE 0 unbound = 1
            layer 0 0 unbound = 2
            count 5 = 3
            """),
        Run.of("21 BAD: a parent that came before (NONE)", """
            2 times module
            layer 0 0 unbound = BAD // itself
            layer -2 0 unbound = BAD
            layer MIN 0 unbound = BAD
            layer MAX 0 unbound = BAD
            layer NONE 0 unbound = 0
            layer 1 1 unbound = BAD // itself
            layer 2 1 unbound = BAD
            layer 0 1 unbound = 1
            """),
        Run.of("21 BAD: no such MODULE", """
            2 times module
            3 times pack 0 #
            layer NONE -1 unbound = BAD
            layer NONE 2 bound = BAD
            layer NONE MIN unbound = BAD
            layer NONE MAX bound = BAD
            layer NONE 1 bound = 0
            """),
        Run.of("21 FULL: LAYERS 0 .. 3", """
            5 times module
            4 times layer #-1 # unbound = #
            layer 3 4 unbound = FULL
            layer NONE 4 unbound = FULL
            count 5 = 4
            loader 3 3 = 3
            loader 4 3 = BAD
            4 times loader 3 # = #
            loader 3 4 = NONE
            """),
        Run.of("21 the first that fits: BAD, FULL, RULES", """
            4 times module
            pack 0 5
            pack 1 5
            type 1 0 CLASS open NONE
            requires 0 1 PLAIN
            layer NONE 2 unbound = 0
            layer NONE 2 unbound = 1
            layer NONE 2 unbound = 2
            exports 1 all export
            layer 3 0 unbound = BAD // not rule 1
            layer 3 2 unbound = BAD // not rule 2
            layer NONE 0 unbound = rule1
            layer 0 2 unbound = rule2
            layer NONE 2 unbound = 3
            layer 4 2 unbound = BAD // not FULL
            layer NONE 4 unbound = BAD
            layer NONE 0 unbound = FULL // not rule 1
            layer 0 2 unbound = FULL // not rule 2
            """),
        Run.of("21 rule 1: a MODULE in it has a SPLIT, the root", """
            2 times module
            pack 0 5
            pack 1 5
            type 1 0 CLASS open NONE
            requires 0 1 STATIC
            exports 1 0 export
            layer NONE 0 unbound = rule1
            layer NONE 0 bound = rule1
            count 5 = 0
            layer NONE 1 unbound = 0
            """),
        Run.of("21 rule 1: a MODULE in it has a SPLIT, the last of its GRAPH", """
            4 times module
            pack 2 5
            pack 3 5
            type 1 0 CLASS open NONE
            requires 0 1 PLAIN
            requires 1 2 PLAIN
            requires 2 3 PLAIN
            layer NONE 0 unbound = 0
            exports 1 all export
            layer NONE 0 unbound = rule1
            split 0 = NONE
            layer NONE 3 unbound = 1
            """),
        Run.of("21 rule 1: one that is not in its GRAPH may have a SPLIT", """
            3 times module
            pack 0 5
            pack 1 5
            type 1 0 CLASS open NONE
            requires 0 1 PLAIN
            requires 2 0 STATIC
            exports 1 all export
            split 0 = 5
            layer NONE 2 unbound = 0
            layer NONE 2 bound = 1
            """),
        Run.of("21 rule 1: one that is BOUND has a SPLIT", """
            3 times module
            pack 0 0
            type 0 0 FACE open NONE
            exports 0 all export
            requires 1 0 PLAIN
            pack 1 5
            type 1 0 CLASS open+maker 0
            pack 2 5
            type 2 0 CLASS open NONE
            exports 2 all export
            requires 1 2 STATIC
            uses 0 0 = 1
            provides 1 0 1 = 1
            split 1 = 5
            layer NONE 0 bound = rule1
            layer NONE 0 unbound = 0
            """),
        Run.of("21 rule 1: a MODULE in it, not one in its parent that got a SPLIT since", """
            3 times module
            pack 0 5
            pack 1 5
            type 1 0 CLASS open NONE
            requires 0 1 PLAIN
            requires 2 0 PLAIN
            layer NONE 0 unbound = 0
            exports 1 all export
            split 0 = 5
            layer 0 2 unbound = 1
            layer 0 0 unbound = rule2
            layer NONE 2 unbound = rule1
            """),
        Run.of("21 rule 2: all its MODULES are in parents", """
            4 times module
            requires 0 1 PLAIN
            requires 1 2 PLAIN
            layer NONE 2 unbound = 0
            layer 0 1 unbound = 1
            layer 1 1 unbound = rule2
            layer 1 2 unbound = rule2 // in the parent's parent
            layer 1 0 unbound = 2 // one is not
            layer 2 0 unbound = rule2 // some here, some there
            layer 2 0 bound = rule2
            count 5 = 3
            layer NONE 1 unbound = 3 // without parents
            """),
        Run.of("21 has MODULES by a GRAPH (BOUND or not) of a root", """
            4 times module
            pack 0 0
            type 0 0 FACE open NONE
            exports 0 all export
            requires 1 0 PLAIN
            requires 1 2 PLAIN
            pack 1 1
            type 1 0 CLASS open+maker 0
            uses 0 0 = 1
            provides 1 0 1 = 1
            layer NONE 0 unbound = 0
            layer NONE 0 bound = 1
            loader 0 0 = 0
            loader 0 1 = NONE
            loader 0 2 = NONE
            3 times loader 1 # = 1
            loader 1 3 = NONE
            layer 0 0 bound = 2 // the bound ones are not in the parent
            loader 2 0 = 0
            loader 2 1 = 2
            loader 2 2 = 2
            """),
        Run.of("21 but for those that parents have", """
            3 times module
            requires 0 1 PLAIN
            requires 1 2 PLAIN
            layer NONE 2 unbound = 0
            layer 0 1 unbound = 1
            layer 1 0 unbound = 2
            loader 2 0 = 2
            loader 2 1 = 1
            loader 2 2 = 0
            loader 1 0 = NONE // not in a child
            loader 0 1 = NONE
            """),
        Run.of("22 BAD: no such LAYER, no such MODULE", """
            2 times module
            3 times pack 0 #
            layer NONE 0 unbound
            loader -1 0 = BAD
            loader 1 0 = BAD
            loader MIN 0 = BAD
            loader MAX 0 = BAD
            loader 0 -1 = BAD
            loader 0 2 = BAD
            loader 0 MIN = BAD
            loader 0 MAX = BAD
            loader 0 0 = 0
            """),
        Run.of("22 NONE: neither it nor its parents have it", """
            3 times module
            layer NONE 0 unbound
            layer NONE 1 unbound
            layer 0 2 unbound
            loader 0 1 = NONE
            loader 1 0 = NONE
            loader 2 1 = NONE // of the first LAYER, which is no parent
            loader 0 2 = NONE
            """),
        Run.of("22 Each MODULE has a loader in each LAYER that has it", """
            module
            4 times layer NONE 0 unbound = #
            4 times loader # 0 = #
            """),
        Run.of("22 itself, or the nearest parent", """
            4 times module
            4 times layer #-1 # unbound = #
            loader 3 3 = 3
            loader 3 2 = 2
            loader 3 1 = 1
            loader 3 0 = 0
            loader 1 1 = 1
            loader 1 2 = NONE
            """),
        Run.of("23 BAD: no such LAYER, no such MODULE", """
            2 times module
            pack 0 0
            type 0 0 CLASS open NONE
            layer NONE 0 unbound
            finds -1 0 0 0 = BAD
            finds 1 0 0 0 = BAD
            finds MIN 0 0 0 = BAD
            finds MAX 0 0 0 = BAD
            finds 0 -1 0 0 = BAD
            finds 0 2 0 0 = BAD
            finds 0 MIN 0 0 = BAD
            finds 0 MAX 0 0 = BAD
            finds 0 0 0 0 = 0
            """),
        Run.of("23 BAD: a NAME is 0 .. 30", """
            2 times module
            pack 0 0
            pack 0 30
            type 1 30 CLASS open NONE
            layer NONE 0 unbound
            finds 0 0 -1 0 = BAD
            finds 0 0 31 0 = BAD
            finds 0 0 MIN 0 = BAD
            finds 0 0 MAX 0 = BAD
            finds 0 0 0 -1 = BAD
            finds 0 0 0 31 = BAD
            finds 0 0 0 MIN = BAD
            finds 0 0 0 MAX = BAD
            finds 0 1 31 0 = BAD // not NO
            finds 0 1 0 31 = BAD // not NO
            finds 0 0 5 31 = BAD // not rule 1
            finds 0 0 30 30 = 0
            finds 0 0 0 0 = rule2
            """),
        Run.of("23 NO: the LAYER and its parents do not have it", """
            3 times module
            3 times pack # 5
            3 times type # 0 CLASS open NONE
            layer NONE 0 unbound = 0
            layer NONE 1 unbound = 1
            layer 0 2 unbound = 2
            finds 0 0 5 0 = 0
            finds 0 1 5 0 = NO
            finds 0 2 5 0 = NO // a child has it
            finds 0 2 6 0 = NO // not rule 1
            finds 0 2 5 1 = NO // not rule 2
            finds 2 1 5 0 = NO // it is no parent
            finds 2 0 5 0 = 0
            finds 2 2 5 0 = 2
            """),
        Run.of("23 in its own PACKAGE of that NAME, if it has one", """
            2 times module
            requires 0 1 PLAIN
            2 times pack # 5
            type 0 1 CLASS closed NONE // 0
            type 1 1 CLASS open NONE // 1
            type 1 2 CLASS open NONE // 2
            layer NONE 0 unbound = 0
            exports 1 all export
            finds 0 0 5 1 = 0
            finds 0 0 5 2 = rule2 // not in the other's
            """),
        Run.of("23 the first (by MODULES' numbers) of those", """
            4 times module
            requires 3 2 PLAIN
            requires 3 1 PLAIN
            requires 3 0 PLAIN
            pack 2 5 // 0
            pack 1 5 // 1
            pack 0 5 // 2
            3 times type # 1 CLASS open NONE
            type 0 2 CLASS open NONE // 3
            layer NONE 3 unbound = 0
            exports 0 all export
            finds 0 3 5 1 = 0
            finds 0 3 5 2 = 3
            exports 1 3 export
            finds 0 3 5 1 = 1
            finds 0 3 5 2 = rule2 // the first alone
            exports 2 1 export
            finds 0 3 5 1 = 1 // EXPORTED to another
            exports 2 3 export
            finds 0 3 5 1 = 2
            """),
        Run.of("23 that it READS at the run", """
            5 times module
            requires 0 1 STATIC
            requires 0 2 PLAIN
            requires 2 3 ON
            requires 3 4 PLAIN
            4 times pack #+1 #+1
            4 times type # 0 CLASS open NONE
            4 times exports # all export
            layer NONE 1 unbound = 0
            layer 0 0 unbound = 1
            finds 1 0 1 0 = rule1 // STATIC, though the parent has it
            finds 1 0 2 0 = 1
            finds 1 0 3 0 = 2 // through ON
            finds 1 0 4 0 = rule1 // in the LAYER, but not READ
            finds 1 3 4 0 = 3
            """),
        Run.of("23 which the LAYER or its parents have", """
            3 times module
            pack 0 5
            type 0 0 CLASS open NONE
            exports 0 all export
            layer NONE 1 unbound = 0
            requires 1 0 PLAIN
            finds 0 1 5 0 = rule1 // it READS it, but the LAYER came before
            layer 0 0 unbound = 1
            requires 2 0 PLAIN
            layer 1 2 unbound = 2
            finds 2 2 5 0 = 0 // its parent has it
            layer NONE 1 unbound = 3
            finds 3 1 5 0 = 0 // itself has it
            """),
        Run.of("23 or its parents: the parent's parent's parent, too", """
            4 times module
            pack 0 5
            type 0 0 CLASS open NONE
            exports 0 all export
            requires 3 0 PLAIN
            4 times layer #-1 # unbound = #
            finds 3 3 5 0 = 0
            finds 3 0 5 0 = 0
            """),
        Run.of("23 (with the loader there, or in the nearest parent: that LAYER is meant from here on)", """
            2 times module
            pack 0 5
            type 0 0 CLASS open NONE
            exports 0 all export
            layer NONE 1 unbound = 0
            requires 1 0 PLAIN
            layer 0 1 unbound = 1
            loader 1 0 = 1
            loader 1 1 = 0
            finds 1 1 5 0 = rule1 // the child has it, not the LAYER of the loader
            finds 1 0 5 0 = 0
            """),
        Run.of("23 and EXPORT such a PACKAGE to it", """
            3 times module
            requires 0 1 PLAIN
            pack 1 5
            type 0 0 CLASS open NONE
            layer NONE 0 unbound = 0
            finds 0 0 5 0 = rule1
            exports 0 all opened
            finds 0 0 5 0 = rule1 // OPENED is not EXPORTED
            exports 0 2 export
            finds 0 0 5 0 = rule1 // to another
            exports 0 0 export
            finds 0 0 5 0 = 0
            """),
        Run.of("23 rule 1: there is no such PACKAGE", """
            2 times module
            requires 0 1 PLAIN
            pack 0 5
            pack 1 6
            type 0 0 CLASS open NONE
            type 1 0 CLASS open NONE
            exports 1 all export
            layer NONE 0 unbound = 0
            finds 0 0 4 0 = rule1
            finds 0 0 7 9 = rule1 // before rule 2
            finds 0 1 5 0 = rule1 // READ the other way
            finds 0 0 6 0 = 1
            """),
        Run.of("23 rule 2: it has no such TYPE", """
            2 times module
            requires 0 1 PLAIN
            pack 0 5
            pack 1 6
            type 1 0 CLASS open NONE
            exports 1 all export
            layer NONE 0 unbound = 0
            finds 0 0 5 0 = rule2 // its own, without TYPES
            finds 0 0 6 1 = rule2
            type 0 1 CLASS closed NONE
            finds 0 0 5 1 = 1
            finds 0 0 5 0 = rule2
            """),
        Run.of("23 rule 3: the TYPE is not OPEN and not its own", """
            2 times module
            requires 0 1 PLAIN
            pack 0 5
            pack 1 6
            4 times type 0 # CLASS # NONE // 0 .. 3
            4 times type 1 # CLASS # NONE // 4 .. 7
            exports 1 all export
            layer NONE 0 unbound = 0
            4 times finds 0 0 5 # = #
            finds 0 0 6 0 = rule3
            finds 0 0 6 1 = 5
            finds 0 0 6 2 = rule3
            finds 0 0 6 3 = 7
            4 times finds 0 1 6 # = #+4 // its own
            """));
}
