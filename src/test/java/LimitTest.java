/**
 * Each sentence that says "at most" or "there are so many": what is let through last, what is refused
 * first, that it is refused again, and that a wrong argument is told as such when all is full.
 */
public final class LimitTest {
    private static final String FULL = "IllegalStateException";
    private static final String WRONG = "IllegalArgumentException";

    public static void main(String[] args) {
        tenPairs();
        tenPairsOfOtherSigns();
        threePairsOfALowerSign();
        twoPairsOfTheLowerSignEmpty();
        noLimitForUpperSigns();
        fourRules();
        twoContexts();
        twoElements();
        noContext();
        eightEntries();
        threeSignsOfAnEntry();
        lines();
        eightSamples();
        Story.end();
    }

    private static void due(PairedWords x, String call, String answer) {
        Story.due("limits", x, call, answer);
    }

    private static void refusedTwice(PairedWords x, String call, String answer) {
        due(x, call, answer);
        due(x, call, answer);
    }

    private static void tenPairs() {
        PairedWords x = new PairedWords();
        for (int i = 0; i < 9; i++) {
            due(x, "pair " + (1 + i / 3) + " " + (1 + i % 3), "" + i);
        }
        due(x, "pair 4 1", "9");
        refusedTwice(x, "pair 4 2", FULL);      // none of these signs has three
        refusedTwice(x, "pair 7 7", FULL);
        refusedTwice(x, "pair 5 0", FULL);
        refusedTwice(x, "pair 0 1", FULL);      // none has the lower sign 0
        refusedTwice(x, "pair 4 1", WRONG);
        refusedTwice(x, "pair 0 0", WRONG);
        refusedTwice(x, "pair 8 1", WRONG);
        refusedTwice(x, "pair 1 8", WRONG);
        refusedTwice(x, "pair -1 1", WRONG);
        due(x, "rule 0 9", "0");
        due(x, "rule 0 10", WRONG);
    }

    private static void tenPairsOfOtherSigns() {
        PairedWords x = new PairedWords();
        for (int sign = 1; sign <= 7; sign++) {
            due(x, "pair " + sign + " " + sign, "" + (sign - 1));
        }
        due(x, "pair 0 1", "7");
        due(x, "pair 0 7", "8");
        due(x, "pair 7 0", "9");
        refusedTwice(x, "pair 7 1", FULL);
        refusedTwice(x, "pair 1 7", FULL);
    }

    private static void threePairsOfALowerSign() {
        for (int sign = 1; sign <= 7; sign++) {
            PairedWords x = new PairedWords();
            due(x, "pair " + sign + " 0", "0");
            due(x, "pair " + sign + " 7", "1");
            due(x, "pair " + sign + " " + sign, sign == 7 ? WRONG : "2");
            due(x, "pair " + sign + " 3", sign == 7 ? "2" : sign == 3 ? WRONG : FULL);
            refusedTwice(x, "pair " + sign + " 5", sign == 5 ? WRONG : FULL);
            refusedTwice(x, "pair " + sign + " 0", WRONG);      // there is such a pair
            refusedTwice(x, "pair " + sign + " 8", WRONG);
            refusedTwice(x, "pair " + sign + " -1", WRONG);
            int other = sign % 7 + 1;
            due(x, "pair " + other + " 5", "3");
            due(x, "pair 0 5", "4");
        }
    }

    private static void twoPairsOfTheLowerSignEmpty() {
        for (int sign = 1; sign <= 7; sign++) {
            PairedWords x = new PairedWords();
            int other = sign % 7 + 1;
            due(x, "pair 0 " + sign, "0");
            due(x, "pair 0 " + other, "1");
            refusedTwice(x, "pair 0 " + (other % 7 + 1), FULL);
            refusedTwice(x, "pair 0 " + sign, WRONG);
            refusedTwice(x, "pair 0 0", WRONG);
            refusedTwice(x, "pair 0 8", WRONG);
            due(x, "pair " + sign + " " + other, "2");
        }
    }

    private static void noLimitForUpperSigns() {
        for (int upper = 0; upper <= 7; upper++) {
            PairedWords x = new PairedWords();
            for (int lower = 1; lower <= 7; lower++) {
                due(x, "pair " + lower + " " + upper, "" + (lower - 1));
            }
            due(x, "pair 0 " + upper, upper == 0 ? WRONG : "7");
        }
    }

    private static void fourRules() {
        for (int kind = 0; kind < 4; kind++) {
            PairedWords x = Story.after("pair 1 1", "pair 2 2");
            for (int i = 0; i < 4; i++) {
                due(x, "rule " + (kind + i) % 4 + " 1", "" + i);
            }
            refusedTwice(x, "rule " + kind + " 1", FULL);
            refusedTwice(x, "rule " + kind + " 0", FULL);
            refusedTwice(x, "rule 4 1", WRONG);
            refusedTwice(x, "rule -1 1", WRONG);
            refusedTwice(x, "rule " + kind + " 2", WRONG);
            refusedTwice(x, "rule " + kind + " -1", WRONG);
            due(x, "context 3 false false", "1");
            due(x, "context 4 false false", WRONG);
        }
    }

    private static PairedWords withFourRules() {
        return Story.after("pair 1 1", "rule 0 0", "rule 1 0", "rule 2 0", "rule 3 0");
    }

    private static void twoContexts() {
        PairedWords x = withFourRules();
        for (int rule = 3; rule >= 0; rule--) {
            due(x, "context " + rule + " true false", "1");
        }
        for (int rule = 0; rule < 4; rule++) {
            due(x, "context " + rule + " false true", "2");
            refusedTwice(x, "context " + rule + " false true", FULL);
            refusedTwice(x, "context " + rule + " true false", FULL);
        }
        refusedTwice(x, "context 4 true true", WRONG);
        refusedTwice(x, "context -1 true true", WRONG);
    }

    /** Each side of each context of each rule has its own two. */
    private static void twoElements() {
        PairedWords x = withFourRules();
        for (int context = 1; context <= 2; context++) {
            for (int rule = 0; rule < 4; rule++) {
                due(x, "context " + rule + " false false", "" + context);
            }
            for (int rule = 0; rule < 4; rule++) {
                fillSide(x, "element " + rule + " false ");
                fillSide(x, "element " + rule + " true ");
                refusedTwice(x, "element " + rule + " false 1 true", FULL);
            }
        }
        refusedTwice(x, "element 4 false 1 false", WRONG);
        refusedTwice(x, "element -1 true 1 false", WRONG);
    }

    private static void fillSide(PairedWords x, String side) {
        due(x, side + "1 true", "1");
        due(x, side + "0 false", "2");
        refusedTwice(x, side + "1 true", FULL);
        refusedTwice(x, side + "0 false", FULL);
        refusedTwice(x, side + "2 false", WRONG);
        refusedTwice(x, side + "-1 false", WRONG);
    }

    private static void noContext() {
        PairedWords x = withFourRules();
        due(x, "context 1 false false", "1");
        for (int rule = 0; rule < 4; rule++) {
            for (String side : new String[] {"false", "true"}) {
                due(x, "element " + rule + " " + side + " 1 false", rule == 1 ? "1" : FULL);
                due(x, "element " + rule + " " + side + " 0 true", rule == 1 ? "2" : FULL);
                due(x, "element " + rule + " " + side + " 2 true", WRONG);
            }
        }
        due(x, "context 0 false false", "1");
        due(x, "element 0 true 1 false", "1");
    }

    private static void eightEntries() {
        for (int part = 0; part < 4; part++) {
            for (int next = -1; next < 4; next++) {
                PairedWords x = new PairedWords();
                String call = "entry " + part + " " + next;
                for (int i = 0; i < 8; i++) {
                    due(x, call, "" + i);
                }
                refusedTwice(x, call, FULL);
                refusedTwice(x, "entry " + (3 - part) + " -1", FULL);
                refusedTwice(x, "entry 4 " + next, WRONG);
                refusedTwice(x, "entry -1 " + next, WRONG);
                refusedTwice(x, "entry " + part + " 4", WRONG);
                refusedTwice(x, "entry " + part + " -2", WRONG);
                due(x, "spell 7 1", "1");
                due(x, "spell 8 1", WRONG);
            }
        }
    }

    private static void threeSignsOfAnEntry() {
        PairedWords x = new PairedWords();
        for (int entry = 0; entry < 8; entry++) {
            due(x, "entry 0 0", "" + entry);
        }
        for (int size = 1; size <= 3; size++) {
            for (int entry = 0; entry < 8; entry++) {
                due(x, "spell " + entry + " " + size, "" + size);
            }
        }
        for (int entry = 0; entry < 8; entry++) {
            refusedTwice(x, "spell " + entry + " 1", FULL);
            refusedTwice(x, "spell " + entry + " 7", FULL);
            refusedTwice(x, "spell " + entry + " 0", WRONG);
            refusedTwice(x, "spell " + entry + " 8", WRONG);
        }
        refusedTwice(x, "spell 8 1", WRONG);
        refusedTwice(x, "spell -1 1", WRONG);
    }

    private static void lines() {
        for (boolean upper : new boolean[] {false, true}) {
            PairedWords x = new PairedWords();
            int most = upper ? 5 : 4;
            due(x, "wipe " + upper, "0");
            for (int round = 0; round < 2; round++) {
                for (int size = 1; size <= most; size++) {
                    due(x, "type " + upper + " " + size, "" + size);
                }
                refusedTwice(x, "type " + upper + " 1", FULL);
                refusedTwice(x, "type " + upper + " 7", FULL);
                refusedTwice(x, "type " + upper + " 0", WRONG);
                refusedTwice(x, "type " + upper + " 8", WRONG);
                due(x, "wipe " + !upper, "0");
                due(x, "type " + !upper + " 1", "1");
                due(x, "wipe " + !upper, "1");
                due(x, "wipe " + upper, "" + most);
                due(x, "wipe " + upper, "0");
            }
            due(x, "type " + upper + " 0", WRONG);
        }
    }

    private static void eightSamples() {
        PairedWords x = Story.after("pair 1 1", "type false 1", "type true 1");
        for (int i = 0; i < 8; i++) {
            due(x, "sample", "" + i);
            due(x, "check", "-1");
        }
        due(x, "type true 1", "2");
        refusedTwice(x, "sample", FULL);
        due(x, "check", "-1");      // what was refused is no sample
    }
}
