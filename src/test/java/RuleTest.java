/** Promise 3, and what the kinds of rules mean. */
public final class RuleTest {

    /** Lower sign 1 may be 1, 2 or (behind a pair 2:2) the rule's 3. */
    private static final String PAIRS = """
            pair 1 1 -> 0
            pair 1 2 -> 1
            pair 1 3 -> 2
            pair 2 2 -> 3
            """;

    private static final String BEHIND_TWO = """
            context 0 false false -> 1
            element 0 false 8 false -> 1
            """;

    public static void main(String[] args) {
        Story.tell("numbers and refusals", """
            rule 0 0 -> IllegalArgumentException
            pair 1 1 -> 0
            pair 0 1 -> 1
            rule -1 0 -> IllegalArgumentException
            rule 4 0 -> IllegalArgumentException
            rule 0 -1 -> IllegalArgumentException
            rule 0 2 -> IllegalArgumentException
            rule 2147483647 0 -> IllegalArgumentException
            rule 0 -2147483648 -> IllegalArgumentException
            rule 0 1 -> 0
            rule 1 1 -> 1
            rule 2 0 -> 2
            rule 3 0 -> 3
            rule 0 0 -> IllegalStateException
            rule 4 0 -> IllegalArgumentException     # what is wrong comes before what is full
            rule 0 2 -> IllegalArgumentException
            """);
        Story.tell("a rule leaves no results, a refused one all", """
            pair 1 1 -> 0
            write -> 1
            rule 4 0 -> IllegalArgumentException
            results -> -
            rule 0 0 -> 0
            results -> none
            rule 0 0 -> 1
            rule 0 0 -> 2
            rule 0 0 -> 3
            write -> 1
            rule 0 0 -> IllegalStateException
            results -> -
            """);
        withoutContexts();
        Story.tell("ONLY: the rule's pair only where a context holds, others everywhere", PAIRS + """
            rule 0 2 -> 0
            """ + BEHIND_TWO + """
            lower 1 -> 1
            write -> 2
            results -> 1 2
            lower 2 1 -> 2
            write -> 3
            results -> 21 22 23
            """);
        Story.tell("ALWAYS: the rule's pair where a context holds, and elsewhere too", PAIRS + """
            rule 1 2 -> 0
            """ + BEHIND_TWO + """
            lower 1 -> 1
            write -> 3
            results -> 1 2 3
            lower 2 1 -> 2
            write -> 1
            results -> 23
            """);
        Story.tell("BOTH: the rule's pair where a context holds, and only there", PAIRS + """
            rule 2 2 -> 0
            """ + BEHIND_TWO + """
            lower 1 -> 1
            write -> 2
            results -> 1 2
            lower 2 1 -> 2
            write -> 1
            results -> 23
            """);
        Story.tell("NEVER: the rule's pair not where a context holds", PAIRS + """
            rule 3 2 -> 0
            """ + BEHIND_TWO + """
            lower 1 -> 1
            write -> 3
            results -> 1 2 3
            lower 2 1 -> 2
            write -> 2
            results -> 21 22
            """);
        emptyLowerSign();
        Story.tell("each place counts", PAIRS + """
            rule 0 2 -> 0
            """ + BEHIND_TWO + """
            lower 2 1 1 -> 3
            upper 2 3 1 -> 3
            belong -> true
            upper 2 1 3 -> 3
            belong -> false
            upper 2 3 3 -> 3
            belong -> false
            """);
        eachPlace();
        Story.tell("ALWAYS asks nothing of pairs with another lower sign, though a context holds", PAIRS + """
            rule 1 2 -> 0
            context 0 false false -> 1
            lower 2 -> 1
            write -> 1
            results -> 2
            lower 2 1 2 -> 3
            write -> 1
            results -> 232
            """);
        Story.end();
    }

    /** The rule's pair or its rival at the first place, in between, at the last one, and alone. */
    private static void eachPlace() {
        // Without contexts, or with one that always holds; and which of 1:1 and 1:2 may not stand then.
        String[] cases = {"0 without 2", "1 with 1", "2 without 2", "2 with 1", "3 with 2"};
        for (String told : cases) {
            String kind = told.split(" ")[0];
            String context = told.split(" ")[1].equals("with") ? "context 0 false false -> 1\n" : "";
            String bad = told.split(" ")[2];
            Story.tell("at each place: kind " + told, """
                pair 1 1 -> 0
                pair 1 2 -> 1
                pair 3 3 -> 2
                rule K 1 -> 0
                CONTEXTlower 1 3 3 -> 3
                upper B 3 3 -> 3
                blame -> 0
                lower 3 1 3 -> 3
                upper 3 B 3 -> 3
                blame -> 0
                lower 3 3 1 -> 3
                upper 3 3 B -> 3
                blame -> 0
                lower 1 -> 1
                upper B -> 1
                blame -> 0
                upper G -> 1
                blame -> -1
                lower 3 3 3 3 -> 4
                upper 3 3 3 3 -> 4
                blame -> -1
                """.replace("K", kind).replace("CONTEXT", context).replace("B", bad)
                .replace("G", bad.equals("1") ? "2" : "1"));
        }
    }

    private static void withoutContexts() {
        String lines = """
            lower 1 -> 1
            """;
        Story.tell("ONLY without contexts: never", PAIRS + "rule 0 2 -> 0\n" + lines + """
            write -> 2
            results -> 1 2
            """);
        Story.tell("ALWAYS without contexts: nothing is asked", PAIRS + "rule 1 2 -> 0\n" + lines + """
            write -> 3
            """);
        Story.tell("BOTH without contexts: never", PAIRS + "rule 2 2 -> 0\n" + lines + """
            write -> 2
            results -> 1 2
            """);
        Story.tell("NEVER without contexts: nothing is asked", PAIRS + "rule 3 2 -> 0\n" + lines + """
            write -> 3
            """);
    }

    private static void emptyLowerSign() {
        Story.tell("ALWAYS for a pair with the lower sign 0: other such pairs may not stand there", """
            pair 1 1 -> 0
            pair 0 2 -> 1
            pair 0 3 -> 2
            rule 1 1 -> 0
            context 0 true false -> 1
            lower 1 -> 1
            write -> 6
            results -> 1 12 13 21 212 213
            """);
    }
}
