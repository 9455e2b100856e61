/** Promise 12. */
public final class WriteTest {

    public static void main(String[] args) {
        Story.tell("in order, each once", """
            pair 1 2 -> 0
            pair 1 0 -> 1
            pair 0 3 -> 2
            pair 0 1 -> 3
            lower 1 -> 1
            write -> 16
            results -> - 1 2 3 11 12 13 21 23 31 32 33 121 123 321 323
            """);
        Story.tell("none", """
            pair 1 1 -> 0
            lower 2 -> 1
            write -> 0
            results -> none
            """);
        Story.tell("the upper line is not asked", """
            pair 1 1 -> 0
            lower 1 -> 1
            upper 5 5 -> 2
            write -> 1
            results -> 1
            wipe true -> 2
            """);
        Story.tell("at most five signs", """
            pair 1 1 -> 0
            pair 0 2 -> 1
            lower 1 1 -> 2
            write -> 8
            results -> 11 112 121 211 1212 2112 2121 21212
            lower 1 1 1 1 -> 4
            write -> 6
            results -> 1111 11112 11121 11211 12111 21111
            """);
        tooMany();
        Story.tell("results of an earlier call go", """
            pair 1 1 -> 0
            pair 1 2 -> 1
            lower 1 -> 1
            write -> 2
            lower 1 1 -> 2
            write -> 4
            results -> 11 12 21 22
            lower 2 -> 1
            write -> 0
            results -> none
            """);
        Story.tell("rules are kept", """
            pair 1 1 -> 0
            pair 1 2 -> 1
            rule 3 1 -> 0
            context 0 false false -> 1
            element 0 false 2 false -> 1
            lower 1 1 1 -> 3
            write -> 5
            results -> 111 112 121 211 212
            """);
        Story.tell("five signs, not six", """
            pair 1 1 -> 0
            pair 0 2 -> 1
            pair 0 3 -> 2
            lower 1 1 1 1 -> 4
            write -> 11
            results -> 1111 11112 11113 11121 11131 11211 11311 12111 13111 21111 31111
            lower -> 0
            write -> 3
            results -> - 2 3
            """);
        Story.tell("the empty form alone", """
            pair 1 0 -> 0
            lower 1 1 1 1 -> 4
            write -> 1
            results -> -
            length 0 false -> 0
            result 0 0 false -> IndexOutOfBoundsException
            """);
        Story.end();
    }

    private static void tooMany() {
        Story.tell("just 60 by 108 alignments", """
            pair 0 3 -> 0
            pair 0 1 -> 1
            pair 1 1 -> 2
            pair 1 3 -> 3
            lower 1 1 -> 2
            write -> 60
            length 59 false -> 5
            length 60 false -> IndexOutOfBoundsException
            """);
        Story.tell("just 60, since longer ones than five signs do not count", """
            pair 2 1 -> 0
            pair 0 1 -> 1
            pair 2 3 -> 2
            pair 1 0 -> 3
            pair 0 3 -> 4
            lower 2 1 2 -> 3
            write -> 60
            length 59 false -> 5
            lower 2 1 2 1 -> 4
            write -> 60                         # the same ones, by 524 alignments
            lower 1 1 1 1 -> 4
            write -> IllegalStateException      # 1 + 2 + 4 + 8 + 16 + 32
            length 59 false -> 5
            length 60 false -> IndexOutOfBoundsException
            """);
        Story.tell("61 by 66 alignments", """
            pair 0 2 -> 0
            pair 0 3 -> 1
            pair 2 2 -> 2
            pair 2 1 -> 3
            pair 1 1 -> 4
            lower 1 -> 1
            write -> 9
            lower 1 2 1 -> 3
            write -> IllegalStateException
            results -> 1 12 13 21 31 212 213 312 313
            rule 3 3 -> 0
            context 0 false false -> 1
            write -> 28
            """);
        Story.tell("81, but a rule stands against all but 60 or less", """
            pair 1 1 -> 0
            pair 1 2 -> 1
            pair 1 3 -> 2
            lower 1 1 1 1 -> 4
            write -> IllegalStateException
            results -> none
            rule 3 2 -> 0
            context 0 true false -> 1
            write -> 54
            """);
        Story.tell("more than 60: the results stay", """
            pair 1 1 -> 0
            pair 1 2 -> 1
            pair 1 3 -> 2
            lower 1 1 1 -> 3
            write -> 27
            lower 1 1 1 1 -> 4
            write -> IllegalStateException      # 81
            length 26 false -> 3
            length 27 false -> IndexOutOfBoundsException
            result 26 0 false -> 3
            result 0 2 false -> 1
            """);
        Story.tell("many alignments, but few forms", """
            pair 1 1 -> 0
            pair 1 0 -> 1
            pair 0 1 -> 2
            lower 1 1 1 1 -> 4
            write -> 6
            results -> - 1 11 111 1111 11111
            """);
        Story.tell("just 60, and 61", """
            pair 1 1 -> 0
            pair 1 2 -> 1
            pair 1 3 -> 2
            pair 2 1 -> 3
            pair 2 2 -> 4
            pair 3 3 -> 5
            pair 3 4 -> 6
            pair 0 6 -> 7
            pair 0 7 -> 8
            rule 0 7 -> 0
            context 0 false true -> 1
            element 0 false 96 false -> 1
            rule 0 8 -> 1
            context 1 false true -> 1
            element 1 false 32 false -> 1
            lower 1 2 2 3 -> 4
            write -> 60                         # 3 * 2 * 2 * 5: the last is 3, 36, 37, 4 or 46
            length 59 false -> 5
            result 59 3 false -> 4
            length 60 false -> IndexOutOfBoundsException
            pair 3 5 -> 9
            rule 0 9 -> 2
            context 2 true false -> 1
            element 2 false 1 false -> 1
            element 2 false 8 true -> 2
            lower -> 0
            write -> 1
            lower 1 2 2 3 -> 4
            write -> IllegalStateException      # 1115 too
            results -> -
            upper 1 1 1 5 -> 4
            belong -> true
            """);
    }
}
