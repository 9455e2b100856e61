/** Promise 10, and what an alignment is. */
public final class BelongTest {

    public static void main(String[] args) {
        Story.tell("signs side by side", """
            pair 1 2 -> 0
            pair 2 2 -> 1
            lower 1 2 -> 2
            upper 2 2 -> 2
            belong -> true
            upper 1 2 -> 2      # a pair is not its own mirror
            belong -> false
            upper 2 -> 1
            belong -> false
            upper 2 2 2 -> 3
            belong -> false
            upper -> 0
            belong -> false
            lower -> 0
            belong -> true
            upper 2 -> 1
            belong -> false
            """);
        Story.tell("signs left out above", """
            pair 1 1 -> 0
            pair 1 0 -> 1
            lower 1 1 1 1 -> 4
            upper -> 0
            belong -> true
            upper 1 -> 1
            belong -> true
            upper 1 1 1 1 -> 4
            belong -> true
            upper 1 1 1 1 1 -> 5
            belong -> false
            """);
        Story.tell("signs left out below, no two of them side by side", """
            pair 1 1 -> 0
            pair 0 2 -> 1
            pair 0 3 -> 2
            lower -> 0
            upper 2 -> 1
            belong -> true
            upper 2 2 -> 2
            belong -> false
            upper 2 3 -> 2
            belong -> false
            lower 1 -> 1
            upper 2 1 3 -> 3
            belong -> true
            upper 2 3 1 -> 3
            belong -> false
            lower 1 1 -> 2
            upper 2 1 3 1 2 -> 5
            belong -> true
            upper 1 1 3 2 -> 4
            belong -> false
            """);
        Story.tell("the longest alignment: nine pairs", """
            pair 1 0 -> 0
            pair 0 1 -> 1
            lower 1 1 1 1 -> 4
            upper 1 1 1 1 1 -> 5
            belong -> true
            lower 1 1 1 -> 3
            belong -> false
            """);
        Story.tell("one alignment that keeps all rules is enough", """
            pair 1 0 -> 0
            pair 0 1 -> 1
            rule 0 1 -> 0
            context 0 true false -> 1
            lower 1 -> 1
            upper 1 -> 1
            belong -> true
            rule 3 1 -> 1
            context 1 true false -> 1
            belong -> false
            """);
        Story.tell("it has to keep all of them at once", """
            pair 1 1 -> 0
            pair 1 0 -> 1
            rule 0 1 -> 0
            context 0 true false -> 1
            rule 0 1 -> 1
            context 1 false true -> 1
            lower 1 1 -> 2
            upper 1 -> 1
            belong -> false
            blame -> -1
            """);
        Story.tell("belong leaves lines and results", """
            pair 1 1 -> 0
            lower 1 -> 1
            write -> 1
            belong -> false
            belong -> false
            results -> 1
            wipe false -> 1
            wipe true -> 0
            """);
        Story.end();
    }
}
