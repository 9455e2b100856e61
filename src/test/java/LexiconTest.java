/** Promises 6 and 7. */
public final class LexiconTest {

    public static void main(String[] args) {
        Story.tell("entry: numbers and refusals", """
            entry -1 0 -> IllegalArgumentException
            entry 4 0 -> IllegalArgumentException
            entry 0 4 -> IllegalArgumentException
            entry 0 -2 -> IllegalArgumentException
            entry 2147483647 0 -> IllegalArgumentException
            entry 0 -2147483648 -> IllegalArgumentException
            entry 0 -1 -> 0
            entry 3 3 -> 1
            entry 0 0 -> 2
            entry 0 -1 -> 3         # the same again is another one
            entry 1 2 -> 4
            entry 2 1 -> 5
            entry 3 -1 -> 6
            entry 0 3 -> 7
            entry 0 0 -> IllegalStateException
            entry 4 0 -> IllegalArgumentException
            entry 0 4 -> IllegalArgumentException
            """);
        Story.tell("entry: leaves no results, a refused one all", """
            write -> 1
            entry 4 0 -> IllegalArgumentException
            results -> -
            entry 1 -1 -> 0
            results -> none
            entry 1 -1 -> 1
            entry 1 -1 -> 2
            entry 1 -1 -> 3
            entry 1 -1 -> 4
            entry 1 -1 -> 5
            entry 1 -1 -> 6
            entry 1 -1 -> 7
            write -> 1
            entry 1 -1 -> IllegalStateException
            results -> -
            """);
        Story.tell("spell: how many, and refusals", """
            spell 0 1 -> IllegalArgumentException
            entry 0 -1 -> 0
            entry 0 -1 -> 1
            spell -1 1 -> IllegalArgumentException
            spell 2 1 -> IllegalArgumentException
            spell 0 0 -> IllegalArgumentException
            spell 0 8 -> IllegalArgumentException
            spell 0 -1 -> IllegalArgumentException
            spell 2147483647 1 -> IllegalArgumentException
            spell 0 1 -> 1
            spell 0 7 -> 2
            spell 1 4 -> 1
            spell 0 1 -> 3
            spell 0 1 -> IllegalStateException
            spell 0 8 -> IllegalArgumentException
            spell 1 4 -> 2
            """);
        Story.tell("spell: leaves no results, a refused one all", """
            entry 0 -1 -> 0
            analyse -> 1
            spell 0 8 -> IllegalArgumentException
            results -> -/0
            spell 0 1 -> 1
            results -> none
            spell 0 1 -> 2
            spell 0 1 -> 3
            write -> 1
            spell 0 1 -> IllegalStateException
            results -> -
            """);
        Story.tell("spell: signs come behind the others", """
            pair 1 1 -> 0
            pair 2 2 -> 1
            pair 3 3 -> 2
            entry 0 -1 -> 0
            spell 0 3 -> 1
            spell 0 1 -> 2
            spell 0 2 -> 3
            upper 3 1 2 -> 3
            analyse -> 1
            results -> 312/0
            """);
        Story.end();
    }
}
