/** Promises 8 and 9. */
public final class LineTest {

    public static void main(String[] args) {
        Story.tell("type: how many, and refusals", """
            type false 0 -> IllegalArgumentException
            type true 0 -> IllegalArgumentException
            type false 8 -> IllegalArgumentException
            type true 8 -> IllegalArgumentException
            type false -1 -> IllegalArgumentException
            type true -2147483648 -> IllegalArgumentException
            type false 1 -> 1
            type false 7 -> 2
            type true 7 -> 1
            type false 1 -> 3
            type false 1 -> 4
            type false 1 -> IllegalStateException
            type false 8 -> IllegalArgumentException
            type true 1 -> 2
            type true 1 -> 3
            type true 1 -> 4
            type true 1 -> 5
            type true 1 -> IllegalStateException
            type true 0 -> IllegalArgumentException
            wipe false -> 4
            wipe true -> 5
            """);
        Story.tell("wipe: how many it had; the other line stays", """
            wipe true -> 0
            type false 1 -> 1
            type false 2 -> 2
            type true 3 -> 1
            wipe true -> 1
            wipe true -> 0
            wipe false -> 2
            wipe false -> 0
            type true 4 -> 1
            """);
        Story.tell("what is typed is in the line, what is wiped no more", """
            pair 1 1 -> 0
            pair 2 2 -> 1
            type false 1 -> 1
            belong -> false
            type true 1 -> 1
            belong -> true
            type false 2 -> 2
            type true 2 -> 2
            belong -> true
            wipe false -> 2
            belong -> false
            type false 2 -> 1
            belong -> false
            wipe true -> 2
            type true 2 -> 1
            belong -> true
            """);
        Story.tell("typing and wiping leave the results", """
            pair 1 1 -> 0
            type false 1 -> 1
            write -> 1
            type false 1 -> 2
            type true 2 -> 1
            wipe false -> 2
            wipe true -> 1
            results -> 1
            """);
        Story.end();
    }
}
