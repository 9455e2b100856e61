import java.util.ArrayList;
import java.util.List;
import java.util.regex.Pattern;

/**
 * "A PATTERN is a row of at most 2 ELEMENTS", "SINGLE or STARRED", "perhaps none", "loose or TIGHT", "some
 * pairs right before that place (perhaps none)", "all there are": every pattern of none, one or two
 * elements over the pairs 1:1 and 2:2, before and behind the pair 3:3, with every row of up to three of
 * them on that side. What is due is told by Java's own patterns of texts.
 */
public final class PatternTest {
    private static final String[] SETS = {"[^12]", "[1]", "[2]", "[12]"};

    private record Element(int set, boolean starred) {
        String asText() {
            return SETS[set] + (starred ? "*" : "");
        }
    }

    public static void main(String[] args) {
        for (List<Element> pattern : patterns()) {
            for (boolean tight : new boolean[] {false, true}) {
                before(pattern, tight);
                behind(pattern, tight);
            }
        }
        Story.end();
    }

    private static List<List<Element>> patterns() {
        List<Element> elements = new ArrayList<>();
        for (int set = 0; set < SETS.length; set++) {
            elements.add(new Element(set, false));
            elements.add(new Element(set, true));
        }
        List<List<Element>> patterns = new ArrayList<>(List.of(List.of()));
        for (Element first : elements) {
            patterns.add(List.of(first));
            for (Element second : elements) {
                patterns.add(List.of(first, second));
            }
        }
        return patterns;
    }

    /** All rows of up to three signs 1 and 2. */
    private static List<String> rows() {
        List<String> rows = new ArrayList<>(List.of(""));
        for (int i = 0; rows.get(i).length() < 3; i++) {
            rows.add(rows.get(i) + "1");
            rows.add(rows.get(i) + "2");
        }
        return rows;
    }

    private static void before(List<Element> pattern, boolean tight) {
        PairedWords x = onlyWith(pattern, false, tight);
        String text = (tight ? "" : ".*") + asText(pattern);
        for (String row : rows()) {
            claim(x, row + "3", Pattern.matches(text, row), "before 3 " + text);
        }
    }

    private static void behind(List<Element> pattern, boolean tight) {
        PairedWords x = onlyWith(pattern, true, tight);
        String text = asText(pattern) + (tight ? "" : ".*");
        for (String row : rows()) {
            claim(x, "3" + row, Pattern.matches(text, row), "behind 3 " + text);
        }
    }

    private static String asText(List<Element> pattern) {
        StringBuilder text = new StringBuilder();
        pattern.forEach(e -> text.append(e.asText()));
        return text.toString();
    }

    private static PairedWords onlyWith(List<Element> pattern, boolean behind, boolean tight) {
        PairedWords x = Story.after("pair 1 1", "pair 2 2", "pair 3 3", "rule 0 2");
        x.context(0, !behind && tight, behind && tight);
        for (Element e : pattern) {
            x.element(0, behind, e.set, e.starred);
        }
        return x;
    }

    private static void claim(PairedWords x, String line, boolean due, String text) {
        x.wipe(false);
        x.wipe(true);
        for (int i = 0; i < line.length(); i++) {
            x.type(false, line.charAt(i) - '0');
            x.type(true, line.charAt(i) - '0');
        }
        Story.claim(line + " with " + text + " is " + due, x.belong() == due);
    }
}
