/** Promise 2. */
public final class PairTest {

    public static void main(String[] args) {
        Story.tell("pairs have numbers as they are made, refused ones none", """
            pair 1 1 -> 0
            pair 7 7 -> 1
            pair 0 7 -> 2
            pair 7 0 -> 3
            pair 1 1 -> IllegalArgumentException    # there is such a pair
            pair 0 7 -> IllegalArgumentException
            pair 1 7 -> 4
            pair 7 1 -> 5                           # lower and upper are not the same
            """);
        Story.tell("signs that are none", """
            pair 0 0 -> IllegalArgumentException
            pair -1 1 -> IllegalArgumentException
            pair 1 -1 -> IllegalArgumentException
            pair 8 1 -> IllegalArgumentException
            pair 1 8 -> IllegalArgumentException
            pair -2147483648 1 -> IllegalArgumentException
            pair 1 2147483647 -> IllegalArgumentException
            pair 1 1 -> 0
            """);
        Story.tell("three of the same lower sign, two of the lower one 0", """
            pair 3 1 -> 0
            pair 3 2 -> 1
            pair 3 0 -> 2
            pair 3 3 -> IllegalStateException
            pair 3 1 -> IllegalArgumentException    # such a pair comes before as many as may be
            pair 3 8 -> IllegalArgumentException
            pair 0 1 -> 3
            pair 0 2 -> 4
            pair 0 3 -> IllegalStateException
            pair 0 1 -> IllegalArgumentException
            pair 4 1 -> 5                           # of an upper sign there may be more
            pair 5 1 -> 6
            """);
        Story.tell("ten in all", """
            pair 1 1 -> 0
            pair 1 2 -> 1
            pair 1 3 -> 2
            pair 2 1 -> 3
            pair 2 2 -> 4
            pair 2 3 -> 5
            pair 3 1 -> 6
            pair 3 2 -> 7
            pair 3 3 -> 8
            pair 0 1 -> 9
            pair 4 1 -> IllegalStateException
            pair 0 2 -> IllegalStateException
            pair 3 3 -> IllegalArgumentException
            pair 0 0 -> IllegalArgumentException
            rule 0 9 -> 0
            rule 0 10 -> IllegalArgumentException
            """);
        Story.tell("a pair leaves no results, a refused one all", """
            write -> 1
            pair 0 0 -> IllegalArgumentException
            results -> -
            pair 1 1 -> 0
            results -> none
            write -> 1
            pair 1 1 -> IllegalArgumentException
            results -> -
            pair 1 2 -> 1
            pair 1 3 -> 2
            write -> 1
            pair 1 4 -> IllegalStateException
            results -> -
            """);
        Story.tell("rules speak of pairs that come after them", """
            pair 1 1 -> 0
            rule 1 0 -> 0
            context 0 false false -> 1
            pair 1 2 -> 1
            lower 1 -> 1
            upper 2 -> 1
            belong -> false
            blame -> 0
            """);
        Story.end();
    }
}
