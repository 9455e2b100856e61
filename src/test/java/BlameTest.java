/** Promise 11. */
public final class BlameTest {

    public static void main(String[] args) {
        Story.tell("no such alignments", """
            pair 1 1 -> 0
            lower 1 -> 1
            blame -> -2
            rule 0 0 -> 0
            upper 2 -> 1
            blame -> -2
            upper 1 -> 1
            blame -> 0
            """);
        Story.tell("no rule", """
            blame -> -1
            pair 1 1 -> 0
            rule 0 0 -> 0
            blame -> -1         # the empty alignment keeps every rule
            """);
        Story.tell("the first of several", """
            pair 1 1 -> 0
            pair 2 2 -> 1
            rule 0 1 -> 0
            rule 3 0 -> 1
            rule 0 0 -> 2
            rule 0 0 -> 3
            lower 1 -> 1
            upper 1 -> 1
            blame -> 2
            context 2 false false -> 1
            blame -> 3
            context 1 false false -> 1
            blame -> 1
            lower 1 2 -> 2
            upper 1 2 -> 2
            blame -> 0
            lower 2 -> 1
            upper 2 -> 1
            blame -> 0
            """);
        Story.tell("a rule that some alignment breaks is not to blame if another keeps it", """
            pair 1 0 -> 0
            pair 0 1 -> 1
            rule 0 1 -> 0
            context 0 true false -> 1
            rule 0 1 -> 1
            context 1 true true -> 1
            lower 1 -> 1
            upper 1 -> 1
            blame -> 1
            belong -> false
            """);
        Story.tell("none when each rule has its alignment, though none keeps all", """
            pair 1 1 -> 0
            pair 1 0 -> 1
            rule 0 1 -> 0
            context 0 true false -> 1
            rule 0 1 -> 1
            context 1 false true -> 1
            lower 1 1 -> 2
            upper 1 -> 1
            blame -> -1
            belong -> false
            """);
        Story.tell("blame leaves the results", """
            pair 1 1 -> 0
            lower 1 -> 1
            write -> 1
            blame -> -2
            results -> 1
            """);
        Story.end();
    }
}
