/** Promise 4, and what loose and tight mean. */
public final class ContextTest {

    /** A rule that lets 1:2 stand only in its contexts. */
    private static final String ONLY = """
            pair 1 1 -> 0
            pair 1 2 -> 1
            rule 0 1 -> 0
            lower 1 1 1 -> 3
            """;

    public static void main(String[] args) {
        Story.tell("how many, and refusals", """
            pair 1 1 -> 0
            context 0 false false -> IllegalArgumentException
            rule 0 0 -> 0
            rule 0 0 -> 1
            context -1 false false -> IllegalArgumentException
            context 2 false false -> IllegalArgumentException
            context 2147483647 true true -> IllegalArgumentException
            context 1 true true -> 1
            context 0 false true -> 1
            context 1 false false -> 2
            context 1 false false -> IllegalStateException
            context 0 true false -> 2
            context 0 true false -> IllegalStateException
            """);
        Story.tell("a context leaves no results, a refused one all", """
            pair 1 1 -> 0
            rule 0 0 -> 0
            write -> 1
            context 1 false false -> IllegalArgumentException
            results -> -
            context 0 false false -> 1
            results -> none
            context 0 false false -> 2
            write -> 1
            context 0 false false -> IllegalStateException
            results -> -
            """);
        Story.tell("without elements and loose: everywhere", ONLY + """
            context 0 false false -> 1
            write -> 8
            results -> 111 112 121 122 211 212 221 222
            """);
        Story.tell("without elements and tight before: at the first place", ONLY + """
            context 0 true false -> 1
            write -> 2
            results -> 111 211
            """);
        Story.tell("without elements and tight behind: at the last place", ONLY + """
            context 0 false true -> 1
            write -> 2
            results -> 111 112
            """);
        Story.tell("without elements and tight on both sides: at the only place", ONLY + """
            context 0 true true -> 1
            write -> 1
            results -> 111
            lower 1 -> 1
            write -> 2
            results -> 1 2
            """);
        Story.tell("one context of two is enough", ONLY + """
            context 0 true false -> 1
            context 0 false true -> 2
            write -> 4
            results -> 111 112 211 212
            """);
        Story.tell("the sides of two contexts are not mixed", ONLY + """
            context 0 true true -> 1
            element 0 true 2 false -> 1    # first, and 1:2 alone behind
            context 0 false false -> 2
            element 0 false 0 false -> 1   # never
            lower 1 1 -> 2
            write -> 1
            results -> 11
            """);
        everyRuleWithTwo();
        Story.end();
    }

    /**
     * Pair r:7 may stand only first with 1:1 behind, or last with 2:2 before, for r = 3 to 6; the contexts
     * are made in several orders, since what is told of one rule must leave the others as they are.
     */
    private static void everyRuleWithTwo() {
        String[] first = {"context R true false -> 1", "element R true 1 false -> 1", "element R true 63 true -> 2",
            "element R false 0 true -> 1", "element R false 0 true -> 2"};
        String[] second = {"context R false true -> 2", "element R false 63 true -> 1", "element R false 2 false -> 2",
            "element R true 0 true -> 1", "element R true 0 true -> 2"};
        StringBuilder upwards = new StringBuilder();
        StringBuilder downwards = new StringBuilder();
        StringBuilder inTurns = new StringBuilder();
        for (int rule = 0; rule < 4; rule++) {
            String all = of(rule, String.join("\n", first) + "\n" + String.join("\n", second) + "\n");
            upwards.append(all);
            downwards.insert(0, all);
        }
        for (String[] calls : new String[][] {first, second}) {
            for (String call : calls) {
                for (int rule : new int[] {2, 3, 0, 1}) {
                    inTurns.append(of(rule, call + "\n"));
                }
            }
        }
        fourRules("rule by rule", upwards.toString());
        fourRules("the last rule first", downwards.toString());
        fourRules("in turns", inTurns.toString());
    }

    private static String of(int rule, String calls) {
        return calls.replace("S", "" + (rule + 3)).replace("R", "" + rule);
    }

    private static void fourRules(String title, String contexts) {
        StringBuilder text = new StringBuilder("""
            pair 1 1 -> 0
            pair 2 2 -> 1
            pair 3 7 -> 2
            pair 4 7 -> 3
            pair 5 7 -> 4
            pair 6 7 -> 5
            rule 0 2 -> 0
            rule 0 3 -> 1
            rule 0 4 -> 2
            rule 0 5 -> 3
            """).append(contexts);
        for (int rule = 0; rule < 4; rule++) {
            text.append(of(rule, """
                lower S 1 -> 2
                upper 7 1 -> 2
                blame -> -1
                lower 1 S 1 -> 3
                upper 1 7 1 -> 3
                blame -> R
                lower 1 2 S -> 3
                upper 1 2 7 -> 3
                blame -> -1
                lower 2 S 2 -> 3
                upper 2 7 2 -> 3
                blame -> R
                lower S 2 -> 2
                upper 7 2 -> 2
                blame -> R
                """));
        }
        Story.tell("four rules with two contexts each, " + title, text.toString());
    }
}
