import java.util.ArrayList;
import java.util.List;

/** "An object is used for at most 512 calls after it has been made": so the 512th answers as the first did. */
public final class CallsOfAnObjectTest {
    private static final int CALLS = 512;

    public static void main(String[] args) {
        lastCallAfter("type false 1", "1", "wipe false", "wipe true", "belong", "blame", "check", "write", "analyse");
        lastCallAfter("pair 1 1", "0", "pair 0 0", "rule 0 0", "context 0 true true", "element 0 true 0 true",
            "entry 4 0", "spell 0 1", "type true 0", "length 0 true", "result 0 0 false");
        lastCallAfter("sample", "0", "write", "length 0 false", "length 0 true", "result 0 0 true", "type false 8");
        lastCallAfter("entry 0 -1", "0", "type true 1", "type false 1", "wipe true", "wipe false", "analyse");
        fullObject();
        twoObjects();
        Story.end();
    }

    /** 511 calls, these again and again, and then the last one that is promised. */
    private static void lastCallAfter(String last, String answer, String... calls) {
        PairedWords x = new PairedWords();
        for (int i = 0; i < CALLS - 1; i++) {
            Story.answer(x, calls[i % calls.length].split(" "));
        }
        Story.due("call 512", x, last, answer);
    }

    /** As many as may be of all there is: 10 pairs, 4 rules, 8 contexts, 32 elements, 8 entries, 24 signs. */
    private static List<String> building() {
        List<String> calls = new ArrayList<>(List.of("pair 1 0", "pair 1 1", "pair 1 2", "pair 2 0", "pair 2 1",
            "pair 2 2", "pair 3 3", "pair 3 0", "pair 0 1", "pair 0 2"));
        for (int rule = 0; rule < 4; rule++) {
            calls.add("rule " + rule + " " + (9 - rule));
            for (int context = 0; context < 2; context++) {
                calls.add("context " + rule + " " + (context == 0) + " " + (context == 1));
                for (int element = 0; element < 2; element++) {
                    calls.add("element " + rule + " false " + (1023 >> element + rule) + " " + (element == 0));
                    calls.add("element " + rule + " true " + (1023 & ~(33 << element + context)) + " " + (element == 1));
                }
            }
        }
        for (int entry = 0; entry < 8; entry++) {
            calls.add("entry " + entry / 2 + " " + (entry % 2 == 0 ? -1 : (entry / 2 + 1) % 4));
            for (int size = 1; size <= 3; size++) {
                calls.add("spell " + entry + " " + (1 + (entry + size) % 3));
            }
        }
        for (int sample = 0; sample < 8; sample++) {
            calls.add("sample");
            calls.add(sample < 4 ? "type false " + (1 + sample % 3) : "type true " + (sample == 6 ? 3 : 1));
        }
        calls.add("type true 2");
        return calls;
    }

    private static void fullObject() {
        String[] asking = {"belong", "blame", "check", "write", "length 0 false", "result 0 0 false", "length 0 true",
            "result 0 0 true", "analyse", "length 0 true", "result 0 0 true", "pair 4 4", "rule 0 0", "context 0 true true",
            "element 0 true 1 true", "entry 0 0", "spell 0 1", "type false 1", "type true 1", "sample", "wipe false",
            "type false 2", "type false 1", "wipe true", "type true 2", "type true 1"};
        PairedWords x = new PairedWords();
        Model model = new Model();
        List<String> building = building();
        for (int i = 0; i < CALLS; i++) {
            String call = i < building.size() ? building.get(i) : asking[(i - building.size()) % asking.length];
            String answer = model.answer(call.split(" "));
            Story.claim("building is not refused: " + call, i >= building.size() || !answer.endsWith("Exception"));
            Story.due("call " + (i + 1) + " of a full object", x, call, answer);
        }
    }

    private static void twoObjects() {
        PairedWords x = new PairedWords();
        PairedWords y = new PairedWords();
        List<String> building = building();
        for (String call : building) {
            Story.claim("not refused: " + call, !Story.answer(x, call.split(" ")).endsWith("Exception"));
            Story.due("an object beside a full one", y, "check", "-1");
            Story.due("an object beside a full one", y, "write", "1");
        }
        Story.due("an object beside a full one", y, "wipe false", "0");
        Story.due("an object beside a full one", y, "wipe true", "0");
        Story.due("an object beside a full one", y, "pair 1 1", "0");
        Story.due("an object beside a full one", y, "rule 0 0", "0");
        Story.due("an object beside a full one", y, "entry 0 0", "0");
        Story.due("an object beside a full one", y, "sample", "0");
    }
}
