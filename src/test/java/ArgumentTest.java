import java.util.ArrayList;
import java.util.List;

/**
 * Each sentence that says which numbers a call takes: all numbers of Numbers.EDGES for each argument, so
 * the last that is let through and the first that is refused on both sides, and those that wrap around.
 */
public final class ArgumentTest {
    private static final String REFUSED = "IllegalArgumentException";
    private static final String NONE_SUCH = "IndexOutOfBoundsException";
    private static final boolean[] BOTH = {false, true};

    public static void main(String[] args) {
        pair();
        rule();
        context();
        elementOfRules();
        elementOfPairs();
        entry();
        spell();
        type();
        length();
        result();
        Story.end();
    }

    private static String[] pairs(int count) {
        List<String> calls = new ArrayList<>();
        for (int i = 0; i < count; i++) {
            calls.add("pair " + (1 + i / 3) + " " + (1 + i % 3));
        }
        return calls.toArray(new String[0]);
    }

    private static String[] with(String[] calls, String call, int times) {
        List<String> all = new ArrayList<>(List.of(calls));
        for (int i = 0; i < times; i++) {
            all.add(call);
        }
        return all.toArray(new String[0]);
    }

    private static void pair() {
        for (int lower : Numbers.EDGES) {
            for (int upper : Numbers.EDGES) {
                boolean right = Numbers.within(lower, 0, 7) && Numbers.within(upper, 0, 7) && (lower != 0 || upper != 0);
                Story.due("each 0 .. 7, not both 0", new PairedWords(), "pair " + lower + " " + upper,
                    right ? "0" : REFUSED);
            }
        }
    }

    private static void rule() {
        for (int count = 0; count <= 10; count++) {
            for (int kind : Numbers.EDGES) {
                for (int pair : Numbers.EDGES) {
                    boolean right = Numbers.within(kind, 0, 3) && Numbers.within(pair, 0, count - 1);
                    if (right || count == 0 || count == 3 || count == 10) {
                        Story.due("there is no such kind or pair, with " + count + " pairs", Story.after(pairs(count)),
                            "rule " + kind + " " + pair, right ? "0" : REFUSED);
                    }
                }
                Story.due("the pair behind the last of " + count, Story.after(pairs(count)),
                    "rule " + kind + " " + count, REFUSED);
            }
        }
    }

    private static void context() {
        for (int count = 0; count <= 4; count++) {
            for (int rule : Numbers.EDGES) {
                for (boolean before : BOTH) {
                    for (boolean behind : BOTH) {
                        Story.due("there is no such rule, with " + count, Story.after(with(pairs(1), "rule 0 0", count)),
                            "context " + rule + " " + before + " " + behind,
                            Numbers.within(rule, 0, count - 1) ? "1" : REFUSED);
                    }
                }
            }
        }
    }

    private static void elementOfRules() {
        for (int count = 0; count <= 4; count++) {
            for (int rule : Numbers.EDGES) {
                for (boolean behind : BOTH) {
                    PairedWords x = Story.after(with(pairs(2), "rule 0 0", count));
                    for (int i = 0; i < count; i++) {
                        x.context(i, false, false);
                    }
                    Story.due("there is no such rule, with " + count, x, "element " + rule + " " + behind + " 1 true",
                        Numbers.within(rule, 0, count - 1) ? "1" : REFUSED);
                }
            }
        }
    }

    private static void elementOfPairs() {
        for (int count = 1; count <= 10; count++) {
            int all = (1 << count) - 1;
            List<Integer> sets = new ArrayList<>(List.of(all - 1, all, all + 1, -all, -all - 1, -all - 2));
            for (int set : Numbers.EDGES) {
                sets.add(set);
            }
            for (int pair = 0; pair < 32; pair++) {
                sets.add(1 << pair);
                sets.add(1 | 1 << pair);
            }
            for (int set : sets) {
                for (boolean behind : BOTH) {
                    PairedWords x = Story.after(with(pairs(count), "rule 0 0", 1));
                    x.context(0, false, false);
                    Story.due("pairs is below 0, or has one that is not there, with " + count + " pairs", x,
                        "element 0 " + behind + " " + set + " " + behind,
                        Numbers.within(set, 0, all) ? "1" : REFUSED);
                }
            }
        }
    }

    private static void entry() {
        for (int part : Numbers.EDGES) {
            for (int next : Numbers.EDGES) {
                boolean right = Numbers.within(part, 0, 3) && Numbers.within(next, -1, 3);
                Story.due("there is no such part, or next is neither one nor END", new PairedWords(),
                    "entry " + part + " " + next, right ? "0" : REFUSED);
            }
        }
    }

    private static void spell() {
        for (int count = 0; count <= 8; count++) {
            for (int entry : Numbers.EDGES) {
                for (int sign : Numbers.EDGES) {
                    boolean right = Numbers.within(entry, 0, count - 1) && Numbers.within(sign, 1, 7);
                    Story.due("there is no such entry or sign, with " + count + " entries",
                        Story.after(with(new String[0], "entry 0 0", count)),
                        "spell " + entry + " " + sign, right ? "1" : REFUSED);
                }
            }
        }
    }

    private static void type() {
        for (int sign : Numbers.EDGES) {
            for (boolean upper : BOTH) {
                Story.due("a line: it is none", new PairedWords(), "type " + upper + " " + sign,
                    Numbers.within(sign, 1, 7) ? "1" : REFUSED);
            }
        }
    }

    /** Words of none to three signs and of one to four entries. */
    private static PairedWords withFourResults() {
        PairedWords x = Story.after("pair 1 0", "entry 0 0", "entry 0 -1", "spell 0 1", "analyse");
        Story.due("four results", x, "results", "-/1 1/01 11/001 111/0001");
        return x;
    }

    private static void length() {
        for (boolean entries : BOTH) {
            for (int k : Numbers.EDGES) {
                String call = "length " + k + " " + entries;
                Story.due("length without results", new PairedWords(), call, NONE_SUCH);
                Story.due("length of one result", Story.after("write"), call, k == 0 ? "0" : NONE_SUCH);
                String due = Numbers.within(k, 0, 3) ? String.valueOf(entries ? k + 1 : k) : NONE_SUCH;
                Story.due("length of four results", withFourResults(), call, due);
            }
        }
    }

    private static void result() {
        for (boolean entries : BOTH) {
            for (int k : Numbers.EDGES) {
                PairedWords one = Story.after("write");
                PairedWords four = withFourResults();
                for (int i : Numbers.EDGES) {
                    String call = "result " + k + " " + i + " " + entries;
                    Story.due("result without results", new PairedWords(), call, NONE_SUCH);
                    Story.due("result: one without signs or entries", one, call, NONE_SUCH);
                    boolean there = Numbers.within(k, 0, 3) && Numbers.within(i, 0, entries ? k : k - 1);
                    String due = !entries ? "1" : i == k ? "1" : "0";
                    Story.due("result of four", four, call, there ? due : NONE_SUCH);
                }
            }
        }
    }
}
