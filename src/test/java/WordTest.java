/** "A WORD are one to four entries ..", "their signs together, at most 4": each edge of these sentences. */
public final class WordTest {

    public static void main(String[] args) {
        noWords();
        Story.tell("one entry, two, three, four, through all parts; not five", """
            entry 0 -1 -> 0
            analyse -> 1
            results -> -/0
            entry 0 1 -> 1
            entry 1 -1 -> 2
            analyse -> 2
            results -> -/0 -/12
            entry 1 2 -> 3
            entry 2 -1 -> 4
            analyse -> 3
            results -> -/0 -/12 -/134
            entry 2 3 -> 5
            entry 3 -1 -> 6
            analyse -> 4
            results -> -/0 -/12 -/134 -/1356
            entry 3 2 -> 7          # 1 3 5 7 4 would be five
            analyse -> 4
            results -> -/0 -/12 -/134 -/1356
            """);
        Story.tell("an entry may lead to its own part, and a word may have it four times", """
            entry 0 0 -> 0
            analyse -> 0
            entry 1 -1 -> 1
            entry 0 1 -> 2
            analyse -> 3
            results -> -/21 -/021 -/0021
            """);
        Story.tell("parts may lead back", """
            entry 3 -1 -> 0
            entry 0 3 -> 1
            entry 3 0 -> 2
            analyse -> 2
            results -> -/10 -/1210
            """);
        signsTogether();
        Story.tell("an entry of three signs", """
            pair 1 1 -> 0
            pair 2 2 -> 1
            pair 3 3 -> 2
            entry 0 -1 -> 0
            upper 1 -> 1
            analyse -> 0
            spell 0 1 -> 1
            analyse -> 1
            results -> 1/0
            spell 0 2 -> 2
            analyse -> 0
            upper 1 2 -> 2
            analyse -> 1
            results -> 12/0
            spell 0 3 -> 3
            analyse -> 0
            upper 1 2 3 -> 3
            analyse -> 1
            results -> 123/0
            spell 0 1 -> IllegalStateException
            analyse -> 1
            results -> 123/0
            """);
        Story.tell("the upper line full: five signs of a word of four", """
            pair 1 1 -> 0
            pair 0 7 -> 1
            entry 0 0 -> 0
            entry 0 -1 -> 1
            spell 0 1 -> 1
            spell 1 1 -> 1
            upper 1 1 1 1 7 -> 5
            analyse -> 1
            results -> 1111/0001
            upper 7 1 7 1 7 -> 5
            analyse -> 1
            results -> 11/01
            upper 1 1 1 1 -> 4
            analyse -> 1
            results -> 1111/0001
            upper 1 1 1 1 1 -> 5
            analyse -> 0
            """);
        Story.end();
    }

    private static void noWords() {
        Story.tell("no entries", """
            analyse -> 0
            results -> none
            length 0 true -> IndexOutOfBoundsException
            """);
        Story.tell("the first is of part 0", """
            entry 1 -1 -> 0
            entry 2 -1 -> 1
            entry 3 -1 -> 2
            analyse -> 0
            entry 0 -1 -> 3
            analyse -> 1
            results -> -/3
            """);
        Story.tell("the last leads to the end", """
            entry 0 0 -> 0
            entry 0 1 -> 1
            entry 1 2 -> 2
            entry 2 3 -> 3
            entry 3 3 -> 4
            analyse -> 0
            entry 3 -1 -> 5
            analyse -> 1
            results -> -/1235
            """);
        Story.tell("the next one is of the part to which the one before leads", """
            entry 0 1 -> 0
            entry 2 -1 -> 1
            entry 3 -1 -> 2
            analyse -> 0
            entry 1 3 -> 3
            analyse -> 1
            results -> -/032
            """);
        Story.tell("nothing goes on behind the end", """
            entry 0 -1 -> 0
            entry 1 -1 -> 1
            entry 3 -1 -> 2
            analyse -> 1
            results -> -/0
            """);
    }

    private static void signsTogether() {
        String signs = """
            pair 1 0 -> 0
            entry 0 1 -> 0
            entry 1 -1 -> 1
            spell 0 1 -> 1
            spell 0 1 -> 2
            spell 0 1 -> 3
            """;
        Story.tell("three and one are four, three and two are too many", signs + """
            analyse -> 1
            results -> 111/01
            spell 1 1 -> 1
            analyse -> 1
            results -> 1111/01
            spell 1 1 -> 2
            analyse -> 0
            spell 1 1 -> 3
            analyse -> 0
            """);
        Story.tell("with four signs an entry without signs still has room", signs + """
            entry 1 2 -> 2
            spell 2 1 -> 1
            entry 2 3 -> 3
            entry 3 -1 -> 4
            analyse -> 2
            results -> 111/01 1111/0234
            spell 4 1 -> 1
            analyse -> 1
            results -> 111/01
            """);
        Story.tell("one each of four entries, and two of one of them", """
            pair 1 1 -> 0
            pair 2 2 -> 1
            entry 0 1 -> 0
            entry 1 2 -> 1
            entry 2 3 -> 2
            entry 3 -1 -> 3
            spell 0 1 -> 1
            spell 1 2 -> 1
            spell 2 1 -> 1
            spell 3 2 -> 1
            upper 1 2 1 2 -> 4
            analyse -> 1
            results -> 1212/0123
            spell 3 1 -> 2
            upper 1 2 1 2 1 -> 5
            analyse -> 0
            """);
        Story.tell("two and two are four, with one more too many", """
            pair 1 0 -> 0
            entry 0 0 -> 0
            spell 0 1 -> 1
            spell 0 1 -> 2
            entry 0 -1 -> 1
            analyse -> 3
            results -> -/1 11/01 1111/001
            """);
    }
}
