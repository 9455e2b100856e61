import java.util.ArrayList;
import java.util.Comparator;
import java.util.HashMap;
import java.util.List;
import java.util.Map;
import java.util.TreeSet;

/**
 * The document said again, as near to its words as can be and without a thought of speed, to hold the
 * program against. Arguments are looked at in the order in which the document names the exceptions.
 */
final class Model {
    private record Pair(int lower, int upper) { }

    private record Element(int pairs, boolean starred) { }

    private record Context(boolean tightBefore, boolean tightBehind, List<Element> before, List<Element> behind) { }

    private record Rule(int kind, int pair, List<Context> contexts) { }

    private record Entry(int part, int next, List<Integer> signs) { }

    private record Sample(List<Integer> lower, List<Integer> upper) { }

    private record Alignment(List<Integer> row, List<Integer> upper) { }

    private record Result(List<Integer> signs, List<Integer> entries) { }

    private static final Comparator<Result> ORDER = (a, b) -> {
        int bySigns = compareRows(a.signs, b.signs);
        return bySigns != 0 ? bySigns : compareRows(a.entries, b.entries);
    };

    private final List<Pair> pairs = new ArrayList<>();
    private final List<Rule> rules = new ArrayList<>();
    private final List<Entry> entries = new ArrayList<>();
    private final List<Sample> samples = new ArrayList<>();
    private final List<Integer> lower = new ArrayList<>();
    private final List<Integer> upper = new ArrayList<>();
    private List<Result> results = new ArrayList<>();
    /** Those of each lower form that was asked for, kept since many calls ask for the same ones. */
    private final Map<List<Integer>, List<Alignment>> alignments = new HashMap<>();

    String answer(String[] c) {
        try {
            return switch (c[0]) {
                case "pair" -> pair(num(c[1]), num(c[2]));
                case "rule" -> rule(num(c[1]), num(c[2]));
                case "context" -> context(num(c[1]), bool(c[2]), bool(c[3]));
                case "element" -> element(num(c[1]), bool(c[2]), num(c[3]), bool(c[4]));
                case "entry" -> entry(num(c[1]), num(c[2]));
                case "spell" -> spell(num(c[1]), num(c[2]));
                case "type" -> type(bool(c[1]), num(c[2]));
                case "wipe" -> wipe(bool(c[1]));
                case "belong" -> "" + belong(lower, upper);
                case "blame" -> "" + blame();
                case "write" -> write();
                case "analyse" -> analyse();
                case "length" -> "" + rowOf(num(c[1]), bool(c[2])).size();
                case "result" -> "" + rowOf(num(c[1]), bool(c[3])).get(num(c[2]));
                case "sample" -> sample();
                case "check" -> "" + check();
                default -> throw new Error("no such call: " + c[0]);
            };
        } catch (IllegalArgumentException | IllegalStateException e) {
            return e.getClass().getSimpleName();
        } catch (IndexOutOfBoundsException e) {
            return "IndexOutOfBoundsException";
        }
    }

    private static int num(String word) {
        return Calls.number(word);
    }

    private static boolean bool(String word) {
        return Calls.truth(word);
    }

    private static void argument(boolean right) {
        if (!right) {
            throw new IllegalArgumentException();
        }
    }

    private static void state(boolean right) {
        if (!right) {
            throw new IllegalStateException();
        }
    }

    private static boolean within(int x, int from, int to) {
        return from <= x && x <= to;
    }

    private String pair(int low, int up) {
        argument(within(low, 0, 7) && within(up, 0, 7));
        argument(low != 0 || up != 0);
        argument(!pairs.contains(new Pair(low, up)));
        state(pairs.size() < 10);
        state(pairs.stream().filter(p -> p.lower == low).count() < (low == 0 ? 2 : 3));
        pairs.add(new Pair(low, up));
        alignments.clear();
        results = List.of();
        return "" + (pairs.size() - 1);
    }

    private String rule(int kind, int pair) {
        argument(within(kind, 0, 3) && within(pair, 0, pairs.size() - 1));
        state(rules.size() < 4);
        rules.add(new Rule(kind, pair, new ArrayList<>()));
        results = List.of();
        return "" + (rules.size() - 1);
    }

    private String context(int rule, boolean tightBefore, boolean tightBehind) {
        argument(within(rule, 0, rules.size() - 1));
        List<Context> contexts = rules.get(rule).contexts;
        state(contexts.size() < 2);
        contexts.add(new Context(tightBefore, tightBehind, new ArrayList<>(), new ArrayList<>()));
        results = List.of();
        return "" + contexts.size();
    }

    private String element(int rule, boolean behind, int set, boolean starred) {
        argument(within(rule, 0, rules.size() - 1));
        argument(set >= 0);
        for (int p = 0; p < 31; p++) {
            argument((set >> p & 1) == 0 || p < pairs.size());
        }
        List<Context> contexts = rules.get(rule).contexts;
        state(!contexts.isEmpty());
        Context latest = contexts.get(contexts.size() - 1);
        List<Element> pattern = behind ? latest.behind : latest.before;
        state(pattern.size() < 2);
        pattern.add(new Element(set, starred));
        results = List.of();
        return "" + pattern.size();
    }

    private String entry(int part, int next) {
        argument(within(part, 0, 3) && within(next, -1, 3));
        state(entries.size() < 8);
        entries.add(new Entry(part, next, new ArrayList<>()));
        results = List.of();
        return "" + (entries.size() - 1);
    }

    private String spell(int entry, int sign) {
        argument(within(entry, 0, entries.size() - 1) && within(sign, 1, 7));
        List<Integer> signs = entries.get(entry).signs;
        state(signs.size() < 3);
        signs.add(sign);
        results = List.of();
        return "" + signs.size();
    }

    private String type(boolean isUpper, int sign) {
        argument(within(sign, 1, 7));
        List<Integer> line = isUpper ? upper : lower;
        state(line.size() < (isUpper ? 5 : 4));
        line.add(sign);
        return "" + line.size();
    }

    private String wipe(boolean isUpper) {
        List<Integer> line = isUpper ? upper : lower;
        int had = line.size();
        line.clear();
        return "" + had;
    }

    private int blame() {
        List<List<Integer>> rows = alignmentsOf(lower, upper);
        if (rows.isEmpty()) {
            return -2;
        }
        for (int r = 0; r < rules.size(); r++) {
            Rule rule = rules.get(r);
            if (rows.stream().noneMatch(row -> keeps(row, rule))) {
                return r;
            }
        }
        return -1;
    }

    private String write() {
        TreeSet<Result> forms = new TreeSet<>(ORDER);
        for (Alignment alignment : alignmentsOf(lower)) {
            if (keepsAll(alignment.row)) {
                forms.add(new Result(alignment.upper, List.of()));
            }
        }
        return take(forms);
    }

    private String analyse() {
        TreeSet<Result> words = new TreeSet<>(ORDER);
        for (List<Integer> word : words(0, 4)) {
            List<Integer> signs = new ArrayList<>();
            word.forEach(e -> signs.addAll(entries.get(e).signs));
            if (signs.size() <= 4 && belong(signs, upper)) {
                words.add(new Result(signs, word));
            }
        }
        return take(words);
    }

    /** The rows of at most so many entries that begin in a part and lead to the end. */
    private List<List<Integer>> words(int part, int most) {
        List<List<Integer>> words = new ArrayList<>();
        for (int e = 0; e < entries.size() && most > 0; e++) {
            if (entries.get(e).part != part) {
                continue;
            }
            if (entries.get(e).next == -1) {
                words.add(List.of(e));
                continue;
            }
            for (List<Integer> rest : words(entries.get(e).next, most - 1)) {
                List<Integer> word = new ArrayList<>(List.of(e));
                word.addAll(rest);
                words.add(word);
            }
        }
        return words;
    }

    private String take(TreeSet<Result> found) {
        state(found.size() <= 60);
        results = new ArrayList<>(found);
        return "" + found.size();
    }

    private List<Integer> rowOf(int k, boolean ofEntries) {
        Result result = results.get(k);
        return ofEntries ? result.entries : result.signs;
    }

    private String sample() {
        state(samples.size() < 8);
        samples.add(new Sample(List.copyOf(lower), List.copyOf(upper)));
        return "" + (samples.size() - 1);
    }

    private int check() {
        for (int i = 0; i < samples.size(); i++) {
            if (!belong(samples.get(i).lower, samples.get(i).upper)) {
                return i;
            }
        }
        return -1;
    }

    private boolean belong(List<Integer> low, List<Integer> up) {
        return alignmentsOf(low, up).stream().anyMatch(this::keepsAll);
    }

    private boolean keepsAll(List<Integer> row) {
        return rules.stream().allMatch(rule -> keeps(row, rule));
    }

    private boolean keeps(List<Integer> row, Rule rule) {
        for (int place = 0; place < row.size(); place++) {
            if (!keepsAt(row, place, rule)) {
                return false;
            }
        }
        return true;
    }

    private boolean keepsAt(List<Integer> row, int place, Rule rule) {
        boolean stands = row.get(place) == rule.pair;
        boolean sameLower = pairs.get(row.get(place)).lower == pairs.get(rule.pair).lower;
        boolean holds = rule.contexts.stream().anyMatch(c -> holds(row, place, c));
        boolean only = !stands || holds;
        boolean always = !(sameLower && holds) || stands;
        return switch (rule.kind) {
            case 0 -> only;
            case 1 -> always;
            case 2 -> only && always;
            default -> !(stands && holds);
        };
    }

    private static boolean holds(List<Integer> row, int place, Context c) {
        boolean before = false;
        for (int from = 0; from <= place; from++) {
            before |= (!c.tightBefore || from == 0) && matches(c.before, row.subList(from, place));
        }
        boolean behind = false;
        for (int to = place + 1; to <= row.size(); to++) {
            behind |= (!c.tightBehind || to == row.size()) && matches(c.behind, row.subList(place + 1, to));
        }
        return before && behind;
    }

    private static boolean matches(List<Element> pattern, List<Integer> row) {
        if (pattern.isEmpty()) {
            return row.isEmpty();
        }
        Element first = pattern.get(0);
        for (int cut = 0; cut <= row.size(); cut++) {
            boolean inSet = row.subList(0, cut).stream().allMatch(p -> (first.pairs >> p & 1) == 1);
            if (inSet && (first.starred || cut == 1)
                    && matches(pattern.subList(1, pattern.size()), row.subList(cut, row.size()))) {
                return true;
            }
        }
        return false;
    }

    private List<List<Integer>> alignmentsOf(List<Integer> low, List<Integer> up) {
        return alignmentsOf(low).stream().filter(a -> a.upper.equals(up)).map(Alignment::row).toList();
    }

    /** All alignments of a lower form whose upper forms have at most 5 signs. */
    private List<Alignment> alignmentsOf(List<Integer> low) {
        List<Alignment> known = alignments.get(low);
        if (known != null) {
            return known;
        }
        List<Alignment> all = new ArrayList<>();
        grow(new ArrayList<>(), low, all);
        alignments.put(List.copyOf(low), all);
        return all;
    }

    private void grow(List<Integer> row, List<Integer> low, List<Alignment> all) {
        List<Integer> so = lowerOf(row);
        if (so.size() > low.size() || !low.subList(0, so.size()).equals(so) || upperOf(row).size() > 5) {
            return;
        }
        if (so.size() == low.size()) {
            all.add(new Alignment(List.copyOf(row), upperOf(row)));
        }
        boolean afterEmpty = !row.isEmpty() && pairs.get(row.get(row.size() - 1)).lower == 0;
        for (int p = 0; p < pairs.size(); p++) {
            if (!(afterEmpty && pairs.get(p).lower == 0)) {
                row.add(p);
                grow(row, low, all);
                row.remove(row.size() - 1);
            }
        }
    }

    private List<Integer> lowerOf(List<Integer> row) {
        return row.stream().map(p -> pairs.get(p).lower).filter(s -> s != 0).toList();
    }

    private List<Integer> upperOf(List<Integer> row) {
        return row.stream().map(p -> pairs.get(p).upper).filter(s -> s != 0).toList();
    }

    private static int compareRows(List<Integer> a, List<Integer> b) {
        if (a.size() != b.size()) {
            return Integer.compare(a.size(), b.size());
        }
        for (int i = 0; i < a.size(); i++) {
            if (!a.get(i).equals(b.get(i))) {
                return Integer.compare(a.get(i), b.get(i));
            }
        }
        return 0;
    }
}
