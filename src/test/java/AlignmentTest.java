/** "AN ALIGNMENT is a row of pairs in which no two side by side have the lower sign 0", and its forms. */
public final class AlignmentTest {

    public static void main(String[] args) {
        emptyLines();
        Story.tell("no two side by side have the lower sign 0: at the beginning, in between, at the end", """
            pair 1 1 -> 0
            pair 0 2 -> 1
            pair 0 3 -> 2
            lower 1 1 -> 2
            upper 1 1 -> 2
            blame -> -1
            upper 2 1 1 -> 3
            blame -> -1
            upper 2 2 1 1 -> 4
            blame -> -2
            upper 2 3 1 1 -> 4
            blame -> -2
            upper 1 3 1 -> 3
            blame -> -1
            upper 1 3 3 1 -> 4
            blame -> -2
            upper 1 3 2 1 -> 4
            blame -> -2
            upper 1 1 3 -> 3
            blame -> -1
            upper 1 1 2 2 -> 4
            blame -> -2
            upper 1 1 2 3 -> 4
            blame -> -2
            upper 2 1 3 1 2 -> 5
            blame -> -1
            """);
        Story.tell("side by side are pairs, not signs: one with the upper sign 0 lies between", """
            pair 1 0 -> 0
            pair 0 2 -> 1
            pair 0 3 -> 2
            lower 1 -> 1
            upper 2 3 -> 2
            belong -> true
            upper 2 2 -> 2
            belong -> true
            upper 2 3 2 -> 3
            belong -> false
            """);
        asManyAsMayBe();
        Story.tell("pairs with the upper sign 0 may stand side by side", """
            pair 1 0 -> 0
            pair 2 0 -> 1
            lower 1 1 2 2 -> 4
            belong -> true
            upper 1 -> 1
            belong -> false
            """);
        Story.tell("no pairs at all: only the empty lines have an alignment", """
            belong -> true
            blame -> -1
            lower 1 -> 1
            belong -> false
            blame -> -2
            lower -> 0
            upper 1 -> 1
            belong -> false
            blame -> -2
            upper -> 0
            belong -> true
            """);
        Story.tell("each of the signs 1 to 7", """
            pair 1 7 -> 0
            pair 2 6 -> 1
            pair 3 5 -> 2
            pair 4 4 -> 3
            pair 5 3 -> 4
            pair 6 2 -> 5
            pair 7 1 -> 6
            lower 1 2 3 4 -> 4
            write -> 1
            results -> 7654
            lower 5 6 7 -> 3
            write -> 1
            results -> 321
            upper 3 2 1 -> 3
            belong -> true
            """);
        Story.end();
    }

    private static void emptyLines() {
        for (int kind = 0; kind < 4; kind++) {
            Story.tell("the alignment of no pairs keeps every rule", """
                pair 1 1 -> 0
                pair 0 2 -> 1
                rule K 0 -> 0
                rule K 1 -> 1
                belong -> true
                blame -> -1
                context 0 true true -> 1
                context 1 false false -> 1
                belong -> true
                blame -> -1
                """.replace("K", "" + kind));
        }
    }

    /** A lower form of n signs has room for n + 1 pairs with the lower sign 0. */
    private static void asManyAsMayBe() {
        String lower = "";
        String upper = " 2";
        for (int signs = 0; signs <= 4; signs++) {
            Story.tell("one pair with the lower sign 0 more than there are lower signs: " + signs, """
                pair 1 0 -> 0
                pair 0 2 -> 1
                lowerL -> M
                upperU -> N
                belong -> true
                blame -> -1
                sample -> 0
                check -> -1
                """.replace("L", lower).replace("U", upper).replace("M", "" + signs).replace("N", "" + (signs + 1)));
            if (signs < 4) {
                Story.tell("two more are too many: " + signs, """
                    pair 1 0 -> 0
                    pair 0 2 -> 1
                    lowerL -> M
                    upperU 2 -> N
                    belong -> false
                    blame -> -2
                    """.replace("L", lower).replace("U", upper).replace("M", "" + signs).replace("N", "" + (signs + 2)));
            }
            lower += " 1";
            upper += " 2";
        }
    }
}
