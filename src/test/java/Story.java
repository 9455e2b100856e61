import java.util.ArrayList;
import java.util.List;

/**
 * Runs of calls told as text, each on a new object. A line is a call, "->" and the answer that is due
 * (a number, true, false, or the name of an exception). There are three short forms:
 * "lower 1 2" and "upper 1 2" wipe a line and type it, "results" has all results in one answer, each
 * as its signs, and behind a slash its entries if it has some: "12/01 3 -/0" ("-" is no sign).
 * What stands behind "#" is not read.
 */
final class Story {
    private static int wrong = 0;

    private Story() {
    }

    static void tell(String title, String text) {
        PairedWords x = new PairedWords();
        int at = 0;
        for (String line : text.split("\n")) {
            at++;
            String told = line.replaceAll("#.*", "").trim();
            if (told.isEmpty()) {
                continue;
            }
            String[] sides = told.split("->");
            if (sides.length != 2) {
                throw new Error(title + ", line " + at + ": no answer is due");
            }
            String got = answer(x, sides[0].trim().split(" +"));
            if (!got.equals(sides[1].trim())) {
                wrong++;
                System.out.println(title + ", line " + at + ": " + told + ", but the answer is " + got);
            }
        }
    }

    /** One call on an object at hand, for tests that go through many. */
    static void due(String title, PairedWords x, String call, String answer) {
        String got = answer(x, call.split(" "));
        if (!got.equals(answer)) {
            wrong++;
            System.out.println(title + ": " + call + " -> " + answer + ", but the answer is " + got);
        }
    }

    /** An object on which each of these calls has been made, whatever it answered. */
    static PairedWords after(String... calls) {
        PairedWords x = new PairedWords();
        for (String call : calls) {
            answer(x, call.split(" "));
        }
        return x;
    }

    /** To be called at the end of a test. */
    static void end() {
        if (wrong > 0) {
            System.exit(1);
        }
    }

    static void claim(String title, boolean holds) {
        if (!holds) {
            wrong++;
            System.out.println("not so: " + title);
        }
    }

    static String answer(PairedWords x, String[] call) {
        return switch (call[0]) {
            case "lower" -> typed(x, false, call);
            case "upper" -> typed(x, true, call);
            case "results" -> results(x);
            default -> Calls.answer(x, call);
        };
    }

    private static String typed(PairedWords x, boolean upper, String[] signs) {
        x.wipe(upper);
        int size = 0;
        for (int i = 1; i < signs.length; i++) {
            size = x.type(upper, Calls.number(signs[i]));
        }
        return String.valueOf(size);
    }

    private static String results(PairedWords x) {
        List<String> all = new ArrayList<>();
        for (int k = 0; has(x, k); k++) {
            String signs = row(x, k, false);
            String entries = row(x, k, true);
            all.add((signs.isEmpty() ? "-" : signs) + (entries.isEmpty() ? "" : "/" + entries));
        }
        return all.isEmpty() ? "none" : String.join(" ", all);
    }

    private static boolean has(PairedWords x, int k) {
        try {
            x.length(k, false);
            return true;
        } catch (IndexOutOfBoundsException e) {
            return false;
        }
    }

    private static String row(PairedWords x, int k, boolean entries) {
        StringBuilder row = new StringBuilder();
        for (int i = 0; i < x.length(k, entries); i++) {
            row.append(x.result(k, i, entries));
        }
        return row.toString();
    }
}
