import java.util.TreeSet;

/** Numbers to try as arguments. */
final class Numbers {
    /**
     * The small ones on both sides of 0, and ones that would look small if they were cut to a few bits:
     * these, too, are wrong wherever the document names a range.
     */
    static final int[] EDGES = edges();

    private Numbers() {
    }

    static boolean within(int x, int from, int to) {
        return from <= x && x <= to;
    }

    private static int[] edges() {
        TreeSet<Integer> all = new TreeSet<>();
        for (int i = -12; i <= 12; i++) {
            all.add(i);
        }
        for (int bit : new int[] {4, 5, 6, 8, 10, 16, 30, 31}) {
            for (int i = -2; i <= 2; i++) {
                all.add((1 << bit) + i);
                all.add(-(1 << bit) + i);
            }
        }
        return all.stream().mapToInt(Integer::intValue).toArray();
    }
}
