/** Promises 16 and 17. */
public final class SampleTest {

    public static void main(String[] args) {
        Story.tell("sample: numbers from 0, eight of them", """
            sample -> 0
            sample -> 1
            type false 1 -> 1
            sample -> 2
            sample -> 3
            sample -> 4
            sample -> 5
            sample -> 6
            sample -> 7
            sample -> IllegalStateException
            sample -> IllegalStateException
            check -> 2
            """);
        Story.tell("check: the first that does not belong, by the pairs and rules of now", """
            check -> -1
            lower 1 -> 1
            upper 1 -> 1
            sample -> 0
            check -> 0
            pair 1 1 -> 0
            check -> -1
            lower 1 2 -> 2
            upper 1 3 -> 2
            sample -> 1
            check -> 1
            lower -> 0
            upper -> 0
            sample -> 2
            check -> 1
            pair 2 3 -> 1
            check -> -1
            rule 3 0 -> 0
            context 0 false false -> 1
            check -> 0
            element 0 true 2 false -> 1
            check -> 1
            element 0 true 2 false -> 2
            check -> -1
            """);
        Story.tell("check: the last of eight, and all eight right", """
            pair 1 1 -> 0
            lower 1 -> 1
            upper 1 -> 1
            sample -> 0
            sample -> 1
            sample -> 2
            sample -> 3
            sample -> 4
            sample -> 5
            sample -> 6
            upper 2 -> 1
            sample -> 7
            check -> 7
            pair 1 2 -> 1
            check -> -1
            """);
        Story.tell("a sample stays as the lines were", """
            pair 1 1 -> 0
            lower 1 -> 1
            upper 1 -> 1
            sample -> 0
            type false 1 -> 2
            check -> -1
            wipe true -> 1
            check -> -1
            sample -> 1
            check -> 1
            wipe false -> 2
            check -> 1
            """);
        Story.tell("neither touches lines and results", """
            pair 1 1 -> 0
            lower 1 -> 1
            upper 2 2 -> 2
            write -> 1
            sample -> 0
            check -> 0
            results -> 1
            wipe false -> 1
            wipe true -> 2
            """);
        Story.tell("full lines", """
            pair 1 1 -> 0
            pair 0 7 -> 1
            lower 1 1 1 1 -> 4
            upper 1 1 1 1 7 -> 5
            sample -> 0
            check -> -1
            """);
        Story.end();
    }
}
