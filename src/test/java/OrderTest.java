/** RESULTS: "in this order: shorter rows .. the lesser first .. fewer entries first, then by the first entry". */
public final class OrderTest {

    public static void main(String[] args) {
        Story.tell("shorter rows of signs before longer ones, though their signs are greater", """
            pair 1 7 -> 0
            pair 1 0 -> 1
            pair 0 1 -> 2
            lower 1 -> 1
            write -> 7
            results -> - 1 7 11 17 71 171
            """);
        Story.tell("of the same length by the first sign in which they differ", """
            pair 1 7 -> 0
            pair 1 1 -> 1
            pair 2 6 -> 2
            pair 2 2 -> 3
            lower 2 1 2 1 -> 4
            write -> 16
            results -> 2121 2127 2161 2167 2721 2727 2761 2767 6121 6127 6161 6167 6721 6727 6761 6767
            """);
        Story.tell("the signs come first, the entries after them", """
            pair 1 0 -> 0
            pair 2 0 -> 1
            pair 7 0 -> 2
            entry 0 -1 -> 0
            entry 0 -1 -> 1
            entry 0 -1 -> 2
            entry 0 1 -> 3
            entry 1 -1 -> 4
            spell 0 7 -> 1
            spell 1 2 -> 1
            spell 2 1 -> 1
            spell 2 1 -> 2
            spell 3 1 -> 1
            analyse -> 4
            results -> 1/34 2/1 7/0 11/2
            """);
        Story.tell("of the same signs those with fewer entries first, though their numbers are greater", """
            pair 1 0 -> 0
            entry 0 1 -> 0
            entry 1 -1 -> 1
            entry 1 2 -> 2
            entry 2 -1 -> 3
            entry 2 3 -> 4
            entry 3 -1 -> 5
            entry 0 -1 -> 6
            entry 0 -1 -> 7
            spell 0 1 -> 1
            spell 6 1 -> 1
            spell 7 1 -> 1
            analyse -> 5
            results -> 1/6 1/7 1/01 1/023 1/0245
            """);
        Story.tell("then by the first entry in which they differ: the first of all, the last of all", """
            pair 1 0 -> 0
            entry 0 0 -> 0
            entry 0 0 -> 1
            entry 0 1 -> 2
            entry 1 -1 -> 3
            entry 1 -1 -> 4
            analyse -> 14
            results -> -/23 -/24 -/023 -/024 -/123 -/124 -/0023 -/0024 -/0123 -/0124 -/1023 -/1024 -/1123 -/1124
            """);
        Story.tell("a word by another way is another result, a form by another way is not", """
            pair 1 1 -> 0
            pair 1 0 -> 1
            pair 0 1 -> 2
            entry 0 -1 -> 0
            entry 0 -1 -> 1
            spell 0 1 -> 1
            spell 1 1 -> 1
            lower 1 -> 1
            upper 1 -> 1
            analyse -> 2
            results -> 1/0 1/1
            write -> 4
            results -> - 1 11 111
            """);
        Story.end();
    }
}
