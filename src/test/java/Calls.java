/** The face of PairedWords by names, so that a run of calls can be told as text. */
final class Calls {

    private Calls() {
    }

    /** What a call answers, or the plain name of the exception that it throws. */
    static String answer(PairedWords x, String[] call) {
        try {
            return call(x, call);
        } catch (RuntimeException e) {
            return e.getClass().getSimpleName();
        }
    }

    private static String call(PairedWords x, String[] c) {
        return switch (c[0]) {
            case "pair" -> text(x.pair(number(c[1]), number(c[2])));
            case "rule" -> text(x.rule(number(c[1]), number(c[2])));
            case "context" -> text(x.context(number(c[1]), truth(c[2]), truth(c[3])));
            case "element" -> text(x.element(number(c[1]), truth(c[2]), number(c[3]), truth(c[4])));
            case "entry" -> text(x.entry(number(c[1]), number(c[2])));
            case "spell" -> text(x.spell(number(c[1]), number(c[2])));
            case "type" -> text(x.type(truth(c[1]), number(c[2])));
            case "wipe" -> text(x.wipe(truth(c[1])));
            case "belong" -> String.valueOf(x.belong());
            case "blame" -> text(x.blame());
            case "write" -> text(x.write());
            case "analyse" -> text(x.analyse());
            case "length" -> text(x.length(number(c[1]), truth(c[2])));
            case "result" -> text(x.result(number(c[1]), number(c[2]), truth(c[3])));
            case "sample" -> text(x.sample());
            case "check" -> text(x.check());
            default -> throw new Error("no such call: " + String.join(" ", c));
        };
    }

    private static String text(int answer) {
        return String.valueOf(answer);
    }

    static int number(String word) {
        return Integer.parseInt(word);
    }

    static boolean truth(String word) {
        if (!word.equals("true") && !word.equals("false")) {
            throw new Error("neither true nor false: " + word);
        }
        return word.equals("true");
    }
}
