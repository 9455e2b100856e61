import java.util.ArrayList;
import java.util.HashMap;
import java.util.List;
import java.util.Map;
import java.util.Random;
import java.util.TreeMap;

/** Runs of drawn calls (the same ones each time), each answer held against the model's. All promises. */
public final class AgainstModelTest {
    private static final int RUNS = 60;
    private static final int CALLS = 512;
    private static final int FIRST_PAIRS = 12;
    private static final int ROUND = 100;
    private static final int BUILDING = 30;

    private final Random random;
    /** Few signs, so that forms often belong to one another. */
    private final int signs;
    private final int parts;
    private final Map<String, Integer> made = new HashMap<>();
    private int results;

    private AgainstModelTest(long seed) {
        random = new Random(seed);
        signs = 1 + random.nextInt(4);
        parts = 1 + random.nextInt(4);
    }

    public static void main(String[] args) {
        int runs = args.length > 0 ? Integer.parseInt(args[0]) : RUNS;
        long firstSeed = args.length > 1 ? Long.parseLong(args[1]) : 1;
        Map<String, Integer> seen = new TreeMap<>();
        for (long seed = firstSeed; seed < firstSeed + runs; seed++) {
            new AgainstModelTest(seed).run(seed, seen);
        }
        for (String rare : List.of("belong true", "belong false", "blame -1", "blame -2", "blame 0", "blame 1",
                "blame 2", "blame 3", "write IllegalStateException", "analyse IllegalStateException",
                "check -1", "check 1", "sample IllegalStateException")) {
            Story.claim("the runs have: " + rare, runs < RUNS || seen.containsKey(rare));
        }
        if (args.length > 0) {
            System.out.println(seen);
        }
        Story.end();
    }

    private void run(long seed, Map<String, Integer> seen) {
        PairedWords x = new PairedWords();
        Model model = new Model();
        List<String> told = new ArrayList<>();
        for (int i = 0; i < CALLS; i++) {
            String call = draw(i);
            String want = model.answer(call.split(" "));
            String got = Calls.answer(x, call.split(" "));
            told.add(call + " -> " + want);
            if (!got.equals(want)) {
                Story.claim("seed " + seed + ": " + String.join("; ", told) + ", but the answer is " + got, false);
                return;
            }
            String name = call.split(" ")[0];
            seen.merge(name + " " + want, 1, Integer::sum);
            if (!want.endsWith("Exception")) {
                note(name, want);
            }
        }
    }

    private void note(String name, String answer) {
        switch (name) {
            case "write", "analyse" -> results = Integer.parseInt(answer);
            case "pair", "rule", "entry" -> made.put(name, Integer.parseInt(answer) + 1);
            default -> { }
        }
    }

    private String draw(int i) {
        if (i < FIRST_PAIRS) {
            return drawPair();
        }
        return i % ROUND < BUILDING ? drawBuilding() : drawQuery();
    }

    private String drawBuilding() {
        return switch (random.nextInt(16)) {
            case 0 -> drawPair();
            case 1, 2 -> "rule " + upTo(3) + " " + upTo(made("pair") - 1);
            case 3, 4 -> "context " + upTo(made("rule") - 1) + " " + oneIn(4) + " " + oneIn(4);
            case 5, 6, 7, 8, 9, 10 ->
                "element " + upTo(made("rule") - 1) + " " + oneIn(2) + " " + drawSet() + " " + oneIn(2);
            case 11, 12 -> "entry " + upTo(random.nextInt(parts)) + " " + (oneIn(2) ? -1 : upTo(parts - 1));
            default -> "spell " + upTo(made("entry") - 1) + " " + sign();
        };
    }

    private String drawPair() {
        return "pair " + (oneIn(4) ? 0 : sign()) + " " + (oneIn(5) ? 0 : sign());
    }

    private String drawQuery() {
        return switch (random.nextInt(18)) {
            case 0, 1, 2 -> "type false " + sign();
            case 3, 4, 5, 6 -> "type true " + sign();
            case 7, 8 -> "wipe " + oneIn(2);
            case 9 -> "belong";
            case 10 -> "blame";
            case 11 -> "write";
            case 12 -> "analyse";
            case 13 -> "length " + upTo(results) + " " + oneIn(2);
            case 14, 15, 16 -> "result " + upTo(results) + " " + upTo(3) + " " + oneIn(2);
            default -> oneIn(3) ? "sample" : "check";
        };
    }

    private int made(String what) {
        return made.getOrDefault(what, 0);
    }

    /** Sometimes one more than there is, or one less. */
    private int upTo(int most) {
        return oneIn(30) || most < 0 ? random.nextInt(2) * (most + 2) - 1 : random.nextInt(most + 1);
    }

    private int sign() {
        return oneIn(40) ? random.nextInt(12) - 2 : 1 + random.nextInt(signs);
    }

    private int drawSet() {
        if (oneIn(20)) {
            return random.nextInt(3000) - 1000;
        }
        return random.nextInt(1 << made("pair"));
    }

    private boolean oneIn(int n) {
        return random.nextInt(n) == 0;
    }
}
