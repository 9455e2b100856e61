/** Promise 5, and how patterns match. */
public final class ElementTest {

    /** A rule that lets 1:2 stand only in its contexts; pairs 2, 3 and 4 are neighbours to be. */
    private static final String ONLY = """
            pair 1 1 -> 0
            pair 1 2 -> 1
            pair 3 3 -> 2
            pair 4 4 -> 3
            pair 5 5 -> 4
            rule 0 1 -> 0
            """;

    public static void main(String[] args) {
        refusals();
        Story.tell("an element leaves no results, a refused one all", """
            pair 1 1 -> 0
            rule 0 0 -> 0
            write -> 1
            element 0 false 1 false -> IllegalStateException
            results -> -
            context 0 false false -> 1
            write -> 1
            element 0 false 2 false -> IllegalArgumentException
            results -> -
            element 0 false 1 false -> 1
            results -> none
            write -> 1
            element 0 true 1 false -> 1
            results -> none
            """);
        before();
        behind();
        Story.tell("elements go to the latest context", ONLY + """
            context 0 false false -> 1
            element 0 false 4 false -> 1
            context 0 false false -> 2
            element 0 false 8 false -> 1
            element 0 true 16 false -> 1
            lower 3 1 -> 2
            upper 3 2 -> 2
            belong -> true
            lower 4 1 -> 2
            upper 4 2 -> 2
            belong -> false
            lower 4 1 5 -> 3
            upper 4 2 5 -> 3
            belong -> true
            """);
        Story.tell("a pair with the lower sign 0, or the upper one 0, is a neighbour too", """
            pair 1 1 -> 0
            pair 1 2 -> 1
            pair 0 3 -> 2
            pair 4 0 -> 3
            rule 0 1 -> 0
            context 0 false false -> 1
            element 0 false 4 false -> 1
            element 0 true 8 false -> 1
            lower 1 4 -> 2
            upper 3 2 -> 2
            belong -> true
            upper 2 -> 1
            belong -> false
            lower 1 -> 1
            upper 3 2 -> 2
            belong -> false
            """);
        longest();
        Story.end();
    }

    /** Nine pairs are the longest row that two lines have: the last has eight before it, the first eight behind. */
    private static void longest() {
        String pairs = """
            pair 1 0 -> 0
            pair 0 2 -> 1
            pair 0 3 -> 2
            rule 0 2 -> 0
            lower 1 1 1 1 -> 4
            """;
        Story.tell("any number of pairs: eight before", pairs + """
            context 0 true false -> 1
            element 0 false 3 true -> 1
            upper 2 2 2 2 3 -> 5
            belong -> true
            element 0 false 2 false -> 2        # right before is 1:0
            belong -> false
            context 0 true false -> 2
            element 0 false 3 true -> 1
            element 0 false 1 false -> 2
            belong -> true
            upper 3 2 2 2 3 -> 5
            belong -> false
            blame -> 0
            """);
        Story.tell("any number of pairs: eight behind", pairs + """
            context 0 false true -> 1
            element 0 true 3 true -> 1
            upper 3 2 2 2 2 -> 5
            belong -> true
            element 0 true 2 false -> 2
            belong -> true
            context 0 false true -> 2
            upper 3 2 2 2 3 -> 5
            belong -> false
            element 0 true 2 false -> 1
            upper 3 2 2 2 2 -> 5
            belong -> true
            """);
        Story.tell("any number of pairs: on both sides of each place", pairs + """
            context 0 true true -> 1
            element 0 false 3 true -> 1
            element 0 true 3 true -> 1
            upper 3 2 2 2 2 -> 5
            belong -> true
            upper 2 3 2 2 2 -> 5
            belong -> true
            upper 2 2 3 2 2 -> 5
            belong -> true
            upper 2 2 2 3 2 -> 5
            belong -> true
            upper 2 2 2 2 3 -> 5
            belong -> true
            upper 2 3 2 3 2 -> 5
            belong -> false
            """);
    }

    private static void refusals() {
        Story.tell("how many, and refusals", """
            pair 1 1 -> 0
            pair 1 2 -> 1
            element 0 false 1 false -> IllegalArgumentException     # no rule
            rule 0 0 -> 0
            rule 0 0 -> 1
            element 0 false 1 false -> IllegalStateException        # no context
            element 0 false 4 false -> IllegalArgumentException     # wrong comes before missing
            element 0 false -1 false -> IllegalArgumentException
            context 0 false false -> 1
            element 0 false 4 false -> IllegalArgumentException
            element 0 false 1073741824 false -> IllegalArgumentException
            element 0 false -1 false -> IllegalArgumentException
            element 0 false -2147483648 true -> IllegalArgumentException
            element -1 false 1 false -> IllegalArgumentException
            element 2 false 1 false -> IllegalArgumentException
            element 1 false 1 false -> IllegalStateException
            element 0 false 0 false -> 1                            # an empty set is one
            element 0 false 3 true -> 2
            element 0 false 1 false -> IllegalStateException
            element 0 true 1 false -> 1                             # the other side has its own
            element 0 true 2 true -> 2
            element 0 true 2 true -> IllegalStateException
            element 0 true 4 true -> IllegalArgumentException
            context 0 true true -> 2
            element 0 true 2 true -> 1                              # of the latest context
            """);
        Story.tell("ten pairs in a set", """
            pair 1 1 -> 0
            pair 1 2 -> 1
            pair 1 3 -> 2
            pair 2 1 -> 3
            pair 2 2 -> 4
            pair 2 3 -> 5
            pair 3 1 -> 6
            pair 3 2 -> 7
            pair 3 3 -> 8
            pair 4 4 -> 9
            rule 0 0 -> 0
            context 0 false false -> 1
            element 0 false 1024 false -> IllegalArgumentException
            element 0 false 512 false -> 1
            element 0 false 1023 false -> 2
            lower 4 2 1 -> 3
            upper 4 1 1 -> 3
            belong -> true
            lower 3 2 1 -> 3
            upper 3 1 1 -> 3
            belong -> false
            """);
    }

    private static void before() {
        String context = ONLY + "context 0 false false -> 1\n";
        String tight = ONLY + "context 0 true false -> 1\n";
        Story.tell("two single ones before, in their order", context + """
            element 0 false 4 false -> 1
            element 0 false 8 false -> 2
            lower 3 4 1 -> 3
            upper 3 4 2 -> 3
            belong -> true
            lower 4 3 1 -> 3
            upper 4 3 2 -> 3
            belong -> false
            lower 4 1 -> 2
            upper 4 2 -> 2
            belong -> false
            lower 5 3 4 1 -> 4
            upper 5 3 4 2 -> 4
            belong -> true
            lower 3 4 5 1 -> 4      # not right before
            upper 3 4 5 2 -> 4
            belong -> false
            """);
        Story.tell("a single and a starred one before", context + """
            element 0 false 4 false -> 1
            element 0 false 8 true -> 2
            lower 3 1 -> 2
            upper 3 2 -> 2
            belong -> true
            lower 3 4 4 1 -> 4
            upper 3 4 4 2 -> 4
            belong -> true
            lower 4 4 1 -> 3
            upper 4 4 2 -> 3
            belong -> false
            lower 3 5 1 -> 3
            upper 3 5 2 -> 3
            belong -> false
            """);
        Story.tell("a starred and a single one before, tight", tight + """
            element 0 false 4 true -> 1
            element 0 false 12 false -> 2
            lower 3 3 3 1 -> 4
            upper 3 3 3 2 -> 4
            belong -> true
            lower 3 3 4 1 -> 4
            upper 3 3 4 2 -> 4
            belong -> true
            lower 4 1 -> 2
            upper 4 2 -> 2
            belong -> true
            lower 5 3 1 -> 3        # not all there are
            upper 5 3 2 -> 3
            belong -> false
            lower 1 -> 1
            upper 2 -> 1
            belong -> false
            """);
        Story.tell("two starred ones before, tight", tight + """
            element 0 false 4 true -> 1
            element 0 false 8 true -> 2
            lower 1 -> 1
            upper 2 -> 1
            belong -> true
            lower 3 3 4 1 -> 4
            upper 3 3 4 2 -> 4
            belong -> true
            lower 4 3 1 -> 3
            upper 4 3 2 -> 3
            belong -> false
            """);
        emptySets(context, false);
    }

    private static void behind() {
        String context = ONLY + "context 0 false false -> 1\n";
        String tight = ONLY + "context 0 false true -> 1\n";
        Story.tell("two single ones behind, in their order", context + """
            element 0 true 4 false -> 1
            element 0 true 8 false -> 2
            lower 1 3 4 -> 3
            upper 2 3 4 -> 3
            belong -> true
            lower 1 4 3 -> 3
            upper 2 4 3 -> 3
            belong -> false
            lower 1 3 -> 2
            upper 2 3 -> 2
            belong -> false
            lower 1 3 4 5 -> 4
            upper 2 3 4 5 -> 4
            belong -> true
            lower 1 5 3 4 -> 4      # not right behind
            upper 2 5 3 4 -> 4
            belong -> false
            """);
        Story.tell("a starred and a single one behind", context + """
            element 0 true 4 true -> 1
            element 0 true 8 false -> 2
            lower 1 4 -> 2
            upper 2 4 -> 2
            belong -> true
            lower 1 3 3 4 -> 4
            upper 2 3 3 4 -> 4
            belong -> true
            lower 1 3 3 -> 3
            upper 2 3 3 -> 3
            belong -> false
            """);
        Story.tell("a single and a starred one behind, tight", tight + """
            element 0 true 12 false -> 1
            element 0 true 4 true -> 2
            lower 1 3 3 3 -> 4
            upper 2 3 3 3 -> 4
            belong -> true
            lower 1 4 3 -> 3
            upper 2 4 3 -> 3
            belong -> true
            lower 1 4 3 5 -> 4      # not all there are
            upper 2 4 3 5 -> 4
            belong -> false
            lower 1 -> 1
            upper 2 -> 1
            belong -> false
            """);
        emptySets(context, true);
    }

    private static void emptySets(String context, boolean behind) {
        Story.tell("a single one of no pair never matches", context + "element 0 " + behind + " 0 false -> 1\n" + """
            lower 3 1 3 -> 3
            upper 3 2 3 -> 3
            belong -> false
            """);
        Story.tell("a starred one of no pair matches no pairs", context + "element 0 " + behind + " 0 true -> 1\n" + """
            lower 3 1 3 -> 3
            upper 3 2 3 -> 3
            belong -> true
            """);
    }
}
