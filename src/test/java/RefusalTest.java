import java.util.ArrayList;
import java.util.List;

/**
 * A refused call throws what the document says and changes nothing: an object that has had one answers
 * all that follows as its twin does that has had none.
 */
public final class RefusalTest {
    private static final String WRONG = "IllegalArgumentException";
    private static final String FULL = "IllegalStateException";
    private static final String NONE_SUCH = "IndexOutOfBoundsException";

    /** Rules with and without contexts and elements, lines, samples and results of analyse. */
    private static final String[] HALF_FULL = {
        "pair 1 1", "pair 1 2", "pair 0 3", "pair 2 0",
        "rule 0 1", "context 0 false false", "element 0 false 8 true", "element 0 true 4 false",
        "rule 3 2", "context 1 true false", "context 1 false false", "element 1 false 4 false",
        "rule 1 0",
        "entry 0 1", "spell 0 1", "entry 1 -1", "spell 1 1", "spell 1 2", "entry 0 -1",
        "lower 1 2", "upper 2 3", "sample", "upper 1 1", "sample", "analyse"};

    /** As many of each as there may be, and results of write. */
    private static final String[] FULL_UP = {
        "pair 1 1", "pair 1 2", "pair 1 3", "pair 2 1", "pair 2 0", "pair 3 3", "pair 4 4", "pair 5 5", "pair 0 6",
        "pair 0 7",
        "rule 0 1", "context 0 false false", "element 0 false 8 true", "element 0 true 16 true",
        "element 0 false 7 false", "element 0 true 1023 true",
        "context 0 true false", "element 0 false 1023 true", "element 0 true 1023 true", "element 0 false 1 true",
        "element 0 true 2 true",
        "rule 3 8", "context 1 true false", "context 1 false true", "rule 3 9", "context 2 false false",
        "context 2 false true", "rule 2 2", "context 3 false false", "element 3 false 32 false",
        "context 3 false false", "element 3 true 32 false",
        "entry 0 1", "entry 0 -1", "entry 1 -1", "entry 1 2", "entry 2 -1", "entry 2 3", "entry 3 -1", "entry 3 0",
        "spell 0 1", "spell 0 1", "spell 0 2", "spell 1 1", "spell 1 1", "spell 1 1", "spell 2 1", "spell 4 1",
        "upper 1 2 6 3 3", "lower 1 1 1 3", "sample", "sample", "sample", "sample", "sample", "sample", "sample",
        "lower 3", "sample", "upper 1 1 6 1", "lower 1 3 1", "write", "lower 1 1 1 1", "upper 1 6 1 2 1"};

    /** 80 words are written with no sign at all; the results are the 40 that can be written 1. */
    private static final String[] MANY_WORDS = {
        "pair 1 0", "pair 1 1", "entry 0 0", "entry 0 0", "entry 0 0", "entry 0 -1", "entry 0 -1", "spell 4 1",
        "upper 1", "analyse", "upper"};

    /** All that can be seen of an object: first what is there, then what comes to it. */
    private static final String[] LOOKING = {
        "results", "belong", "blame", "check", "write", "results", "analyse", "results",
        "sample", "pair 6 6", "pair 6 6", "rule 3 0", "context 0 true false", "context 1 true false",
        "context 2 true false", "element 0 false 1 false", "element 0 true 1 false", "element 1 false 1 false",
        "element 1 true 1 false", "element 2 true 1 false", "element 3 true 1 false", "entry 0 -1", "spell 0 1",
        "spell 1 1", "spell 2 1", "results", "belong", "blame", "check", "write", "results", "analyse", "results",
        "type true 1", "type false 1", "check", "sample", "write", "results", "wipe false", "wipe true", "check",
        "upper 1 1 6 1", "analyse", "results"};

    public static void main(String[] args) {
        eachOf(HALF_FULL, WRONG, "pair 0 0", "pair 1 1", "pair 0 3", "pair 2 0", "pair 8 0", "pair 0 8", "pair -1 2",
            "pair 2 -1", "rule 4 0", "rule -1 0", "rule 0 4", "rule 0 -1", "context 3 true true",
            "context -1 true true", "element 3 false 1 false", "element -1 true 1 false", "element 0 true 16 false",
            "element 0 true 17 true", "element 0 true -1 true", "element 0 true -2147483648 true",
            "element 2 true 16 false", "entry 4 0", "entry -1 0", "entry 0 4", "entry 0 -2", "spell 3 1",
            "spell -1 1", "spell 0 0", "spell 0 8", "type false 0", "type false 8", "type true 0", "type true -1");
        eachOf(HALF_FULL, FULL, "element 2 true 1 false", "element 2 false 0 true");
        eachOf(HALF_FULL, NONE_SUCH, "length -1 false", "length 2 true", "length 2 false", "result 0 -1 true",
            "result 0 4 true", "result 9 0 false", "result -1 0 false");
        eachOf(FULL_UP, FULL, "pair 3 1", "pair 0 1", "pair 1 4", "pair 7 7", "rule 0 0", "context 0 true true",
            "context 3 false false", "element 0 false 1 false", "element 0 true 1 true", "entry 0 -1", "entry 3 3",
            "spell 0 1", "spell 1 7", "type false 1", "type true 1", "sample", "write");
        eachOf(FULL_UP, WRONG, "pair 1 1", "pair 0 0", "pair 8 8", "rule 4 0", "rule 0 10", "context 4 true true",
            "element 0 false 1024 false", "element 4 false 1 false", "entry 4 -1", "entry 0 -2", "spell 8 1",
            "spell 0 0", "type false 0", "type true 8");
        eachOf(FULL_UP, NONE_SUCH, "length 60 false", "result 0 5 false", "result 0 0 true", "result 60 0 false");
        eachOf(MANY_WORDS, FULL, "analyse");
        eachOf(MANY_WORDS, NONE_SUCH, "length 40 true", "result 39 4 true", "result 39 1 false", "result 40 0 true");
        Story.end();
    }

    private static void eachOf(String[] state, String exception, String... refused) {
        List<String> due = look(Story.after(state));
        for (String call : refused) {
            PairedWords x = Story.after(state);
            Story.due("refused", x, call, exception);
            Story.due("refused again", x, call, exception);
            List<String> got = look(x);
            Story.claim(call + " changes nothing: " + got + " is " + due, got.equals(due));
        }
    }

    private static List<String> look(PairedWords x) {
        List<String> seen = new ArrayList<>();
        for (String call : LOOKING) {
            seen.add(call + " -> " + Story.answer(x, call.split(" ")));
        }
        return seen;
    }
}
