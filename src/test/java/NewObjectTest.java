/** Promise 1 and the face. */
public final class NewObjectTest {

    public static void main(String[] args) {
        Story.claim("END is -1", PairedWords.END == -1);
        Story.tell("a new object has no pairs, rules, entries", """
            rule 0 0 -> IllegalArgumentException
            context 0 false false -> IllegalArgumentException
            element 0 false 0 false -> IllegalArgumentException
            spell 0 1 -> IllegalArgumentException
            """);
        Story.tell("nothing in the lines, no results, no samples", """
            wipe false -> 0
            wipe true -> 0
            results -> none
            length 0 false -> IndexOutOfBoundsException
            length 0 true -> IndexOutOfBoundsException
            result 0 0 false -> IndexOutOfBoundsException
            check -> -1
            sample -> 0
            """);
        Story.tell("the empty alignment", """
            belong -> true
            blame -> -1
            analyse -> 0
            write -> 1
            results -> -
            """);
        Story.end();
    }
}
