/** Promise 13. */
public final class AnalyseTest {

    private static final String SAME = """
            pair 1 1 -> 0
            pair 2 2 -> 1
            pair 3 3 -> 2
            """;

    public static void main(String[] args) {
        Story.tell("a word begins in part 0 and ends at the end", SAME + """
            entry 0 1 -> 0
            entry 1 -1 -> 1
            entry 1 2 -> 2
            entry 2 -1 -> 3
            entry 0 3 -> 4      # leads nowhere
            spell 0 1 -> 1
            spell 1 2 -> 1
            spell 2 2 -> 1
            upper 1 2 -> 2
            analyse -> 2
            results -> 12/01 12/023
            upper 2 -> 1
            analyse -> 0
            upper 1 -> 1
            analyse -> 0
            """);
        Story.tell("one to four entries", """
            entry 0 0 -> 0
            entry 0 -1 -> 1
            analyse -> 4
            results -> -/1 -/01 -/001 -/0001
            """);
        Story.tell("at most four signs", """
            pair 1 0 -> 0
            entry 0 0 -> 0
            entry 0 -1 -> 1
            spell 0 1 -> 1
            spell 0 1 -> 2
            analyse -> 3
            results -> -/1 11/01 1111/001
            spell 1 1 -> 1
            analyse -> 2
            results -> 1/1 111/01
            """);
        Story.tell("in order: length, signs, fewer entries, entries", """
            pair 1 0 -> 0
            pair 2 0 -> 1
            entry 0 1 -> 0
            entry 0 -1 -> 1
            entry 1 -1 -> 2
            entry 0 -1 -> 3
            entry 1 -1 -> 4
            entry 0 1 -> 5
            spell 0 2 -> 1
            spell 1 2 -> 1
            spell 2 1 -> 1
            spell 3 2 -> 1
            spell 3 1 -> 2
            analyse -> 6
            results -> -/54 1/52 2/1 2/04 21/3 21/02
            """);
        Story.tell("in order: of as many entries by the first in which they differ", """
            entry 0 -1 -> 0
            entry 0 0 -> 1
            entry 1 -1 -> 2
            entry 0 1 -> 3
            entry 0 -1 -> 4
            analyse -> 11
            results -> -/0 -/4 -/10 -/14 -/32 -/110 -/114 -/132 -/1110 -/1114 -/1132
            """);
        Story.tell("through pairs and rules, and the lower line is not asked", """
            pair 1 1 -> 0
            pair 1 2 -> 1
            rule 2 1 -> 0
            context 0 false true -> 1
            entry 0 -1 -> 0
            entry 0 -1 -> 1
            spell 0 1 -> 1
            spell 1 1 -> 1
            spell 1 1 -> 2
            lower 3 -> 1
            upper 1 2 -> 2
            analyse -> 1
            results -> 11/1
            upper 2 -> 1
            analyse -> 1
            results -> 1/0
            upper 1 -> 1
            analyse -> 0
            results -> none
            wipe false -> 1
            """);
        tooMany();
        Story.end();
    }

    private static void tooMany() {
        Story.tell("words that do not belong, and rows that are too long for words, do not count", """
            pair 1 1 -> 0
            entry 0 0 -> 0
            entry 0 0 -> 1
            entry 0 0 -> 2
            entry 0 0 -> 3
            entry 0 -1 -> 4
            entry 0 -1 -> 5
            analyse -> IllegalStateException    # 2 * (1 + 4 + 16 + 64)
            results -> none
            spell 4 1 -> 1
            spell 5 1 -> 1
            analyse -> 0
            spell 4 1 -> 2
            spell 4 1 -> 3
            spell 5 1 -> 2
            spell 5 1 -> 3
            spell 0 1 -> 1
            spell 1 1 -> 1
            spell 2 1 -> 1
            spell 3 1 -> 1
            upper 1 1 1 -> 3
            analyse -> 2
            upper 1 1 1 1 -> 4
            analyse -> 8
            results -> 1111/04 1111/05 1111/14 1111/15 1111/24 1111/25 1111/34 1111/35
            """);
        Story.tell("more than 60: the results stay", """
            entry 0 0 -> 0
            entry 0 0 -> 1
            entry 0 0 -> 2
            entry 0 -1 -> 3
            analyse -> 40               # 1 + 3 + 9 + 27
            length 39 true -> 4
            result 39 0 true -> 2
            entry 1 -1 -> 4
            analyse -> 40
            pair 1 1 -> 0
            lower 1 -> 1
            write -> 1
            entry 0 -1 -> 5
            write -> 1
            analyse -> IllegalStateException     # 80
            results -> 1
            """);
        Story.tell("just 60, and 61", """
            pair 1 0 -> 0
            entry 0 0 -> 0
            entry 0 0 -> 1
            entry 0 -1 -> 2
            entry 0 -1 -> 3
            entry 0 -1 -> 4
            entry 0 -1 -> 5
            spell 0 1 -> 1
            spell 1 1 -> 1
            analyse -> 60               # 4 * (1 + 2 + 4 + 8)
            length 59 true -> 4
            result 59 3 true -> 5
            length 60 true -> IndexOutOfBoundsException
            entry 0 1 -> 6
            spell 6 1 -> 1
            spell 6 1 -> 2
            spell 6 1 -> 3
            entry 1 -1 -> 7
            spell 7 1 -> 1
            write -> 1
            analyse -> IllegalStateException     # one more: with four signs no other entry has room
            results -> -
            """);
    }
}
