/** "At first there are none; a call that makes a pair, rule, context, entry, or changes one, leaves none." */
public final class ResultsStayTest {
    private static final String[] STATE = {
        "pair 1 1", "pair 1 2", "rule 0 1", "context 0 true false", "entry 0 -1", "spell 0 1", "entry 0 0",
        "type false 1", "type true 1"};

    public static void main(String[] args) {
        Story.due("at first there are none", new PairedWords(), "results", "none");
        for (String call : new String[] {"pair 1 3", "pair 0 1", "rule 3 0", "rule 1 1", "context 0 false false",
                "element 0 false 1 true", "element 0 true 0 false", "entry 0 -1", "entry 3 3", "spell 0 1",
                "spell 1 7"}) {
            leavesNone(call, "write", "1 2");
            leavesNone(call, "analyse", "1/0 1/10 1/110 1/1110");
        }
        for (String call : new String[] {"type false 1", "type true 1", "wipe false", "wipe true", "belong", "blame",
                "length 0 false", "length 1 true", "result 0 0 false", "result 0 0 true", "sample", "check"}) {
            leavesAll(call, "write", "1 2");
            leavesAll(call, "analyse", "1/0 1/10 1/110 1/1110");
        }
        byTheirCalls();
        Story.end();
    }

    private static void leavesNone(String call, String gathering, String results) {
        PairedWords x = Story.after(STATE);
        Story.answer(x, new String[] {gathering});
        Story.due("before " + call, x, "results", results);
        Story.claim(call + " is let through", !Story.answer(x, call.split(" ")).endsWith("Exception"));
        Story.due("behind " + call, x, "results", "none");
        Story.due("behind " + call, x, "length 0 false", "IndexOutOfBoundsException");
        Story.due("behind " + call, x, "result 0 0 true", "IndexOutOfBoundsException");
    }

    private static void leavesAll(String call, String gathering, String results) {
        PairedWords x = Story.after(STATE);
        Story.answer(x, new String[] {gathering});
        Story.answer(x, call.split(" "));
        Story.due("behind " + call, x, "results", results);
    }

    private static void byTheirCalls() {
        Story.tell("write and analyse put theirs in the place of the others, none too", """
            pair 1 1 -> 0
            entry 0 -1 -> 0
            spell 0 1 -> 1
            lower 1 -> 1
            upper 1 -> 1
            write -> 1
            results -> 1
            analyse -> 1
            results -> 1/0
            write -> 1
            results -> 1
            upper 2 -> 1
            analyse -> 0
            results -> none
            write -> 1
            results -> 1
            lower 2 -> 1
            write -> 0
            results -> none
            """);
    }
}
