/** Promises 14 and 15. */
public final class ResultTest {

    public static void main(String[] args) {
        Story.tell("of write: signs, and no entries", """
            pair 1 4 -> 0
            pair 1 0 -> 1
            pair 2 5 -> 2
            lower 1 2 -> 2
            write -> 2
            length 0 false -> 1
            length 1 false -> 2
            length 0 true -> 0
            length 1 true -> 0
            result 0 0 false -> 5
            result 1 0 false -> 4
            result 1 1 false -> 5
            result 0 1 false -> IndexOutOfBoundsException
            result 1 2 false -> IndexOutOfBoundsException
            result 1 -1 false -> IndexOutOfBoundsException
            result 0 0 true -> IndexOutOfBoundsException
            """);
        Story.tell("of analyse: signs and entries", """
            pair 7 7 -> 0
            entry 0 0 -> 0
            entry 2 2 -> 1
            entry 0 -1 -> 2
            spell 2 7 -> 1
            upper 7 -> 1
            analyse -> 4
            length 0 false -> 1
            length 0 true -> 1
            length 3 false -> 1
            length 3 true -> 4
            result 3 0 false -> 7
            result 3 1 false -> IndexOutOfBoundsException
            result 3 0 true -> 0
            result 3 2 true -> 0
            result 3 3 true -> 2
            result 3 4 true -> IndexOutOfBoundsException
            result 0 1 true -> IndexOutOfBoundsException
            result 0 -1 true -> IndexOutOfBoundsException
            """);
        Story.tell("there is none", """
            length 0 false -> IndexOutOfBoundsException
            write -> 1
            length 0 false -> 0
            length 0 true -> 0
            result 0 0 false -> IndexOutOfBoundsException
            length 1 false -> IndexOutOfBoundsException
            length 1 true -> IndexOutOfBoundsException
            length -1 false -> IndexOutOfBoundsException
            length 2147483647 true -> IndexOutOfBoundsException
            length -2147483648 true -> IndexOutOfBoundsException
            result 1 0 false -> IndexOutOfBoundsException
            result -1 0 true -> IndexOutOfBoundsException
            result 0 2147483647 false -> IndexOutOfBoundsException
            result 0 -2147483648 true -> IndexOutOfBoundsException
            """);
        Story.tell("what is gone can't be read, nor what is behind the last of 60", """
            pair 1 1 -> 0
            pair 1 2 -> 1
            lower 1 -> 1
            write -> 2
            result 1 0 false -> 2
            upper 1 -> 1
            analyse -> 0
            result 0 0 false -> IndexOutOfBoundsException
            write -> 2
            lower 1 1 -> 2
            write -> 4
            lower 1 -> 1
            write -> 2
            result 2 0 false -> IndexOutOfBoundsException
            entry 0 0 -> 0
            entry 0 0 -> 1
            entry 0 -1 -> 2
            entry 0 -1 -> 3
            entry 0 -1 -> 4
            entry 0 -1 -> 5
            upper -> 0
            analyse -> 60
            result 59 0 true -> 1
            result 60 0 true -> IndexOutOfBoundsException
            length 60 true -> IndexOutOfBoundsException
            """);
        Story.tell("the highest numbers", """
            pair 7 7 -> 0
            entry 0 0 -> 0
            entry 1 0 -> 1
            entry 1 0 -> 2
            entry 1 0 -> 3
            entry 1 0 -> 4
            entry 1 0 -> 5
            entry 0 0 -> 6
            entry 0 -1 -> 7
            spell 6 7 -> 1
            spell 7 7 -> 1
            upper 7 7 7 7 -> 4
            analyse -> 1
            results -> 7777/6667
            pair 0 7 -> 1
            lower 7 7 7 -> 3
            write -> 3
            results -> 777 7777 77777
            """);
        Story.end();
    }
}
