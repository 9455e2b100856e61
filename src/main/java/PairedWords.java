/**
 * Words have a lower form, as they are built, and an upper one, as they are written. Pairs of signs
 * side by side lead from one to the other, as far as the rules let them stand.
 */
public final class PairedWords {

    public static final int END = -1;

    private static final int EMPTY = 0;
    private static final int LAST_SIGN = 7;
    private static final int MOST_PAIRS = 10;
    private static final int MOST_PAIRS_OF_A_SIGN = 3;
    private static final int MOST_PAIRS_OF_EMPTY = 2;
    private static final int KINDS = 4;
    private static final int ONLY = 0;
    private static final int ALWAYS = 1;
    private static final int BOTH = 2;
    private static final int NEVER = 3;
    private static final int MOST_RULES = 4;
    private static final int MOST_CONTEXTS = 2;
    private static final int MOST_ELEMENTS = 2;
    private static final int PARTS = 4;
    private static final int FIRST_PART = 0;
    private static final int MOST_ENTRIES = 8;
    private static final int MOST_SIGNS_OF_ENTRY = 3;
    private static final int MOST_ENTRIES_OF_WORD = 4;
    private static final int MOST_LOWER_SIGNS = 4;
    private static final int MOST_UPPER_SIGNS = 5;
    private static final int MOST_RESULTS = 60;
    private static final int MOST_SAMPLES = 8;
    private static final int NONE = -1;
    private static final int NO_ALIGNMENT = -2;

    /** Between, before and behind the lower signs there is room for one pair with an empty lower sign each. */
    private static final int MOST_PLACES = 2 * MOST_LOWER_SIGNS + 1;

    private final Pairs pairs = new Pairs();
    private final Rules rules = new Rules();
    private final Lexicon lexicon = new Lexicon();
    private final Line lowerLine = new Line(MOST_LOWER_SIGNS);
    private final Line upperLine = new Line(MOST_UPPER_SIGNS);
    private final Samples samples = new Samples();
    private final Results results = new Results();
    /** New results are gathered apart, since the old ones stay when there are too many new ones. */
    private final Results gathered = new Results();
    private final Comparison comparison = new Comparison(pairs, rules);
    private final Writing writing = new Writing(pairs, rules, gathered);

    public PairedWords() {
    }

    public int pair(int lower, int upper) throws IllegalArgumentException, IllegalStateException {
        if (!isSignOrEmpty(lower) || !isSignOrEmpty(upper)) {
            throw new IllegalArgumentException("no such sign");
        }
        if ((lower == EMPTY && upper == EMPTY) || pairs.has(lower, upper)) {
            throw new IllegalArgumentException("both empty, or there already");
        }
        if (!pairs.hasRoomFor(lower)) {
            throw new IllegalStateException("as many pairs as may be");
        }
        results.clear();
        int number = pairs.add(lower, upper);
        rules.settle(pairs);
        return number;
    }

    public int rule(int kind, int pair) throws IllegalArgumentException, IllegalStateException {
        if (kind < 0 || kind >= KINDS || pair < 0 || pair >= pairs.count()) {
            throw new IllegalArgumentException("no such kind or pair");
        }
        if (rules.count() >= MOST_RULES) {
            throw new IllegalStateException("as many rules as may be");
        }
        results.clear();
        int number = rules.add(kind, pair);
        rules.settle(pairs);
        return number;
    }

    public int context(int rule, boolean tightBefore, boolean tightBehind)
            throws IllegalArgumentException, IllegalStateException {
        if (rule < 0 || rule >= rules.count()) {
            throw new IllegalArgumentException("no such rule");
        }
        if (rules.contextsOf(rule) >= MOST_CONTEXTS) {
            throw new IllegalStateException("as many contexts as may be");
        }
        results.clear();
        return rules.addContext(rule, tightBefore, tightBehind);
    }

    public int element(int rule, boolean behind, int pairs, boolean starred)
            throws IllegalArgumentException, IllegalStateException {
        if (rule < 0 || rule >= rules.count()) {
            throw new IllegalArgumentException("no such rule");
        }
        if (pairs < 0 || pairs >= 1 << this.pairs.count()) {
            throw new IllegalArgumentException("no such set of pairs");
        }
        if (rules.contextsOf(rule) == 0) {
            throw new IllegalStateException("no context");
        }
        int context = rules.latestContextOf(rule);
        Patterns patterns = behind ? rules.behind : rules.before;
        if (patterns.elementsOf(context) >= MOST_ELEMENTS) {
            throw new IllegalStateException("as many elements as may be");
        }
        results.clear();
        return patterns.addElement(context, pairs, starred);
    }

    public int entry(int part, int next) throws IllegalArgumentException, IllegalStateException {
        if (!isPart(part) || !(isPart(next) || next == END)) {
            throw new IllegalArgumentException("no such part");
        }
        if (lexicon.count() >= MOST_ENTRIES) {
            throw new IllegalStateException("as many entries as may be");
        }
        results.clear();
        return lexicon.add(part, next);
    }

    public int spell(int entry, int sign) throws IllegalArgumentException, IllegalStateException {
        if (entry < 0 || entry >= lexicon.count() || !isSign(sign)) {
            throw new IllegalArgumentException("no such entry or sign");
        }
        Line signs = lexicon.signsOf(entry);
        if (signs.isFull()) {
            throw new IllegalStateException("as many signs as may be");
        }
        results.clear();
        return signs.add(sign);
    }

    public int type(boolean upper, int sign) throws IllegalArgumentException, IllegalStateException {
        if (!isSign(sign)) {
            throw new IllegalArgumentException("no such sign");
        }
        Line line = upper ? upperLine : lowerLine;
        if (line.isFull()) {
            throw new IllegalStateException("the line is full");
        }
        return line.add(sign);
    }

    public int wipe(boolean upper) {
        Line line = upper ? upperLine : lowerLine;
        int had = line.size();
        line.cutTo(0);
        return had;
    }

    public boolean belong() {
        return comparison.finds(lowerLine, upperLine);
    }

    public int blame() {
        comparison.finds(lowerLine, upperLine);
        return comparison.culprit();
    }

    public int write() throws IllegalStateException {
        gathered.clear();
        writing.goThrough(lowerLine);
        if (gathered.isTooMany()) {
            throw new IllegalStateException("too many results");
        }
        results.copy(gathered);
        return results.count();
    }

    public int analyse() throws IllegalStateException {
        gathered.clear();
        lexicon.goOn(FIRST_PART, 0, upperLine, comparison, gathered);
        if (gathered.isTooMany()) {
            throw new IllegalStateException("too many results");
        }
        results.copy(gathered);
        return results.count();
    }

    public int length(int k, boolean entries) throws IndexOutOfBoundsException {
        if (k < 0 || k >= results.count()) {
            throw new IndexOutOfBoundsException("no such result");
        }
        return entries ? results.entriesOf(k) : results.signsOf(k);
    }

    public int result(int k, int i, boolean entries) throws IndexOutOfBoundsException {
        if (k < 0 || k >= results.count()) {
            throw new IndexOutOfBoundsException("no such result");
        }
        int size = entries ? results.entriesOf(k) : results.signsOf(k);
        if (i < 0 || i >= size) {
            throw new IndexOutOfBoundsException("no such sign or entry");
        }
        return entries ? results.entryOf(k, i) : results.signOf(k, i);
    }

    public int sample() throws IllegalStateException {
        if (samples.count() >= MOST_SAMPLES) {
            throw new IllegalStateException("as many samples as may be");
        }
        return samples.add(lowerLine, upperLine);
    }

    public int check() {
        for (int i = 0; i < samples.count(); i++) {
            if (!comparison.finds(samples.lowerOf(i), samples.upperOf(i))) {
                return i;
            }
        }
        return NONE;
    }

    private static boolean isSign(int sign) {
        return sign > EMPTY && sign <= LAST_SIGN;
    }

    private static boolean isSignOrEmpty(int sign) {
        return sign == EMPTY || isSign(sign);
    }

    private static boolean isPart(int part) {
        return part >= 0 && part < PARTS;
    }

    /** A row of signs up to a length; what is beyond its ends is EMPTY and can't be changed. */
    private static final class Line {
        private final int[] signs;
        private int size;

        Line(int most) {
            signs = new int[most];
        }

        int size() {
            return size;
        }

        boolean isFull() {
            return size >= signs.length;
        }

        boolean hasRoomFor(Line other) {
            return other.size <= signs.length - size;
        }

        int signAt(int i) {
            return i >= 0 && i < size ? signs[i] : EMPTY;
        }

        int add(int sign) {
            if (!isFull()) {
                signs[size] = sign;
                size++;
            }
            return size;
        }

        void addAll(Line other) {
            for (int i = 0; i < other.size; i++) {
                add(other.signs[i]);
            }
        }

        void cutTo(int least) {
            if (least >= 0 && least < size) {
                size = least;
            }
        }

        void copy(Line other) {
            cutTo(0);
            addAll(other);
        }
    }

    private static final class Pairs {
        private final int[] lowers = new int[MOST_PAIRS];
        private final int[] uppers = new int[MOST_PAIRS];
        private int count;

        int count() {
            return count;
        }

        int lowerOf(int pair) {
            return lowers[pair];
        }

        int upperOf(int pair) {
            return uppers[pair];
        }

        boolean has(int lower, int upper) {
            for (int i = 0; i < count; i++) {
                if (lowers[i] == lower && uppers[i] == upper) {
                    return true;
                }
            }
            return false;
        }

        boolean hasRoomFor(int lower) {
            int same = 0;
            for (int i = 0; i < count; i++) {
                if (lowers[i] == lower) {
                    same++;
                }
            }
            int most = lower == EMPTY ? MOST_PAIRS_OF_EMPTY : MOST_PAIRS_OF_A_SIGN;
            return count < MOST_PAIRS && same < most;
        }

        int add(int lower, int upper) {
            lowers[count] = lower;
            uppers[count] = upper;
            count++;
            return count - 1;
        }
    }

    /**
     * The patterns of all contexts on one side of a place, read pair by pair towards the place, all at
     * once. A state has three bits for each context: the uppermost is the goal, set when the pattern
     * matches; each below it stands for an element that is to be read next. A pattern's start is as
     * many bits below its goal as it has elements, so that the goals of both sides are the same bits.
     */
    private static final class Patterns {
        private static final int GOAL = MOST_ELEMENTS;
        private static final int WIDTH = MOST_ELEMENTS + 1;
        private static final int FIELD = (1 << WIDTH) - 1;

        private final boolean fromLeft;
        private final int[] sizes = new int[MOST_RULES * MOST_CONTEXTS];
        /** For each pair the bits of the elements in whose sets it is. */
        private final int[] having = new int[MOST_PAIRS];
        private int starred;
        private int starts;
        private int looseStarts;

        Patterns(boolean fromLeft) {
            this.fromLeft = fromLeft;
        }

        static int goalOf(int context) {
            return 1 << (WIDTH * context + GOAL);
        }

        void open(int context, boolean tight) {
            starts |= goalOf(context);
            if (!tight) {
                looseStarts |= goalOf(context);
            }
        }

        int elementsOf(int context) {
            return sizes[context];
        }

        int addElement(int context, int set, boolean isStarred) {
            starts = lowered(starts, context);
            looseStarts = lowered(looseStarts, context);
            if (fromLeft) {
                lowerElements(context);
            }
            sizes[context]++;
            // Read from the left, the element at the right end comes right before the goal, else at the start.
            int bit = goalOf(context) >> (fromLeft ? 1 : sizes[context]);
            for (int pair = 0; pair < MOST_PAIRS; pair++) {
                if ((set >> pair & 1) == 1) {
                    having[pair] |= bit;
                }
            }
            if (isStarred) {
                starred |= bit;
            }
            return sizes[context];
        }

        private void lowerElements(int context) {
            starred = lowered(starred, context);
            for (int pair = 0; pair < MOST_PAIRS; pair++) {
                having[pair] = lowered(having[pair], context);
            }
        }

        private static int lowered(int bits, int context) {
            int field = FIELD << (WIDTH * context);
            return (bits & ~field) | ((bits & field) >> 1);
        }

        /** The state before anything is read. */
        int first() {
            return skipStarred(starts);
        }

        /** The state that follows when a pair is read; a loose pattern may begin behind it too. */
        int next(int state, int pair) {
            int reading = state & having[pair];
            int read = (reading & starred) | ((reading & ~starred) << 1);
            return skipStarred(read | looseStarts);
        }

        private int skipStarred(int state) {
            int skipped = state;
            for (int i = 0; i < MOST_ELEMENTS; i++) {
                skipped |= (skipped & starred) << 1;
            }
            return skipped;
        }
    }

    /** Sets of rules are sums of 2^number. */
    private static final class Rules {
        private final Patterns before = new Patterns(true);
        private final Patterns behind = new Patterns(false);
        private final int[] kinds = new int[MOST_RULES];
        private final int[] pairOf = new int[MOST_RULES];
        private final int[] contexts = new int[MOST_RULES];
        private final int[] goals = new int[MOST_RULES];
        /** For each pair the rules that ask for a context that holds where it stands. */
        private final int[] asking = new int[MOST_PAIRS];
        /** For each pair the rules that let no context hold where it stands. */
        private final int[] barring = new int[MOST_PAIRS];
        private int count;

        int count() {
            return count;
        }

        int add(int kind, int pair) {
            kinds[count] = kind;
            pairOf[count] = pair;
            count++;
            return count - 1;
        }

        int contextsOf(int rule) {
            return contexts[rule];
        }

        int latestContextOf(int rule) {
            return MOST_CONTEXTS * rule + contexts[rule] - 1;
        }

        int addContext(int rule, boolean tightBefore, boolean tightBehind) {
            contexts[rule]++;
            int context = latestContextOf(rule);
            before.open(context, tightBefore);
            behind.open(context, tightBehind);
            goals[rule] |= Patterns.goalOf(context);
            return contexts[rule];
        }

        /** A rule speaks of pairs that were made after it too, so this is due after each new rule and pair. */
        void settle(Pairs pairs) {
            for (int pair = 0; pair < pairs.count(); pair++) {
                asking[pair] = 0;
                barring[pair] = 0;
                for (int rule = 0; rule < count; rule++) {
                    boolean same = pair == pairOf[rule];
                    boolean rival = !same && pairs.lowerOf(pair) == pairs.lowerOf(pairOf[rule]);
                    asking[pair] |= asks(kinds[rule], same) ? 1 << rule : 0;
                    barring[pair] |= bars(kinds[rule], same, rival) ? 1 << rule : 0;
                }
            }
        }

        private static boolean asks(int kind, boolean same) {
            return same && (kind == ONLY || kind == BOTH);
        }

        private static boolean bars(int kind, boolean same, boolean rival) {
            return (rival && (kind == ALWAYS || kind == BOTH)) || (same && kind == NEVER);
        }

        /** The rules that a pair breaks between what the patterns before and behind have read. */
        int brokenBy(int pair, int stateBefore, int stateBehind) {
            int matched = stateBefore & stateBehind;
            int holding = 0;
            for (int rule = 0; rule < count; rule++) {
                if ((matched & goals[rule]) != 0) {
                    holding |= 1 << rule;
                }
            }
            return (asking[pair] & ~holding) | (barring[pair] & holding);
        }
    }

    /** Goes through the alignments of a lower form, whose upper forms are for its kinds to choose. */
    private abstract static class Search {
        private final Pairs pairs;
        private final Rules rules;
        private final Line lower = new Line(MOST_LOWER_SIGNS);
        private final int[] row = new int[MOST_PLACES];
        /** The state of the patterns before each place. */
        private final int[] before = new int[MOST_PLACES + 1];

        Search(Pairs pairs, Rules rules) {
            this.pairs = pairs;
            this.rules = rules;
        }

        /** Whether the upper form may have this sign there. */
        abstract boolean takesUpper(int at, int sign);

        /** Whether the upper form may end with so many signs. */
        abstract boolean mayEnd(int size);

        abstract void meet(int places, int broken);

        abstract boolean isDone();

        final void goThrough(Line lowerForm) {
            lower.copy(lowerForm);
            before[0] = rules.before.first();
            extend(0, 0, 0);
        }

        final int upperAt(int place) {
            return pairs.upperOf(row[place]);
        }

        private void extend(int place, int lowerDone, int upperDone) {
            if (lowerDone == lower.size() && mayEnd(upperDone)) {
                meet(place, brokenRules(place));
            }
            if (place >= MOST_PLACES) {
                return;
            }
            for (int pair = 0; pair < pairs.count() && !isDone(); pair++) {
                if (fitsLower(pair, place, lowerDone) && fitsUpper(pair, upperDone)) {
                    put(pair, place, lowerDone, upperDone);
                }
            }
        }

        private void put(int pair, int place, int lowerDone, int upperDone) {
            row[place] = pair;
            before[place + 1] = rules.before.next(before[place], pair);
            int lowerNow = pairs.lowerOf(pair) == EMPTY ? lowerDone : lowerDone + 1;
            int upperNow = pairs.upperOf(pair) == EMPTY ? upperDone : upperDone + 1;
            extend(place + 1, lowerNow, upperNow);
        }

        private boolean fitsLower(int pair, int place, int lowerDone) {
            int sign = pairs.lowerOf(pair);
            if (sign == EMPTY) {
                return place == 0 || pairs.lowerOf(row[place - 1]) != EMPTY;
            }
            return lower.signAt(lowerDone) == sign;
        }

        private boolean fitsUpper(int pair, int upperDone) {
            int sign = pairs.upperOf(pair);
            return sign == EMPTY || takesUpper(upperDone, sign);
        }

        private int brokenRules(int places) {
            int broken = 0;
            int behind = rules.behind.first();
            for (int place = places - 1; place >= 0; place--) {
                broken |= rules.brokenBy(row[place], before[place], behind);
                behind = rules.behind.next(behind, row[place]);
            }
            return broken;
        }
    }

    /** Looks for an alignment of two forms that keeps all rules. */
    private static final class Comparison extends Search {
        private final Line upper = new Line(MOST_UPPER_SIGNS);
        private boolean any;
        private boolean kept;
        private int brokenByAll;

        Comparison(Pairs pairs, Rules rules) {
            super(pairs, rules);
        }

        boolean finds(Line lowerForm, Line upperForm) {
            upper.copy(upperForm);
            any = false;
            kept = false;
            brokenByAll = (1 << MOST_RULES) - 1;
            goThrough(lowerForm);
            return kept;
        }

        /** The first rule that all alignments of the last two forms break. */
        int culprit() {
            if (!any) {
                return NO_ALIGNMENT;
            }
            for (int rule = 0; rule < MOST_RULES; rule++) {
                if ((brokenByAll >> rule & 1) == 1) {
                    return rule;
                }
            }
            return NONE;
        }

        boolean takesUpper(int at, int sign) {
            return upper.signAt(at) == sign;
        }

        boolean mayEnd(int size) {
            return size == upper.size();
        }

        void meet(int places, int broken) {
            any = true;
            brokenByAll &= broken;
            if (broken == 0) {
                kept = true;
            }
        }

        /** An alignment that keeps all rules settles the culprit too: there is none. */
        boolean isDone() {
            return kept;
        }
    }

    /** Gathers the upper forms that belong to a lower one. */
    private static final class Writing extends Search {
        private static final int[] NO_ENTRIES = {};

        private final Line upper = new Line(MOST_UPPER_SIGNS);
        private final Results forms;

        Writing(Pairs pairs, Rules rules, Results forms) {
            super(pairs, rules);
            this.forms = forms;
        }

        boolean takesUpper(int at, int sign) {
            return at < MOST_UPPER_SIGNS;
        }

        boolean mayEnd(int size) {
            return true;
        }

        void meet(int places, int broken) {
            if (broken != 0) {
                return;
            }
            upper.cutTo(0);
            for (int place = 0; place < places; place++) {
                if (upperAt(place) != EMPTY) {
                    upper.add(upperAt(place));
                }
            }
            forms.add(Results.keyOf(upper, NO_ENTRIES, 0));
        }

        boolean isDone() {
            return forms.isTooMany();
        }
    }

    private static final class Lexicon {
        private final int[] parts = new int[MOST_ENTRIES];
        private final int[] nexts = new int[MOST_ENTRIES];
        private final Line[] signs = new Line[MOST_ENTRIES];
        private final int[] word = new int[MOST_ENTRIES_OF_WORD];
        private final Line wordSigns = new Line(MOST_LOWER_SIGNS);
        private int count;

        Lexicon() {
            for (int i = 0; i < MOST_ENTRIES; i++) {
                signs[i] = new Line(MOST_SIGNS_OF_ENTRY);
            }
        }

        int count() {
            return count;
        }

        Line signsOf(int entry) {
            return signs[entry];
        }

        int add(int part, int next) {
            parts[count] = part;
            nexts[count] = next;
            count++;
            return count - 1;
        }

        /**
         * Gathers the words that begin with the first size entries of the one at hand and go on in a
         * part, if their lower form belongs to an upper one.
         */
        private void goOn(int part, int size, Line upper, Comparison comparison, Results words) {
            if (size >= MOST_ENTRIES_OF_WORD) {
                return;
            }
            for (int entry = 0; entry < count && !words.isTooMany(); entry++) {
                if (parts[entry] == part && wordSigns.hasRoomFor(signs[entry])) {
                    put(entry, size, upper, comparison, words);
                }
            }
        }

        private void put(int entry, int size, Line upper, Comparison comparison, Results words) {
            int had = wordSigns.size();
            word[size] = entry;
            wordSigns.addAll(signs[entry]);
            if (nexts[entry] != END) {
                goOn(nexts[entry], size + 1, upper, comparison, words);
            } else if (comparison.finds(wordSigns, upper)) {
                words.add(Results.keyOf(wordSigns, word, size + 1));
            }
            wordSigns.cutTo(had);
        }
    }

    /**
     * Each result is one number of octal digits: how many signs, the signs, how many entries, the
     * entries, with zeros where there are fewer than may be. So the order of results is that of numbers.
     */
    private static final class Results {
        private static final int BITS = 3;
        private static final int DIGITS = 2 + MOST_UPPER_SIGNS + MOST_ENTRIES_OF_WORD;
        private static final int ENTRY_COUNT = 1 + MOST_UPPER_SIGNS;

        private final long[] keys = new long[MOST_RESULTS];
        private int count;
        private boolean tooMany;

        int count() {
            return count;
        }

        boolean isTooMany() {
            return tooMany;
        }

        void clear() {
            count = 0;
            tooMany = false;
        }

        void copy(Results other) {
            System.arraycopy(other.keys, 0, keys, 0, MOST_RESULTS);
            count = other.count;
            tooMany = other.tooMany;
        }

        /** One more, at its place in the order, if it is not there yet. */
        void add(long key) {
            int at = count;
            while (at > 0 && keys[at - 1] > key) {
                at--;
            }
            if (at > 0 && keys[at - 1] == key) {
                return;
            }
            if (count >= MOST_RESULTS) {
                tooMany = true;
                return;
            }
            for (int i = count; i > at; i--) {
                keys[i] = keys[i - 1];
            }
            keys[at] = key;
            count++;
        }

        static long keyOf(Line signs, int[] entries, int entryCount) {
            long key = signs.size();
            for (int i = 0; i < MOST_UPPER_SIGNS; i++) {
                key = key << BITS | signs.signAt(i);
            }
            key = key << BITS | entryCount;
            for (int i = 0; i < MOST_ENTRIES_OF_WORD; i++) {
                key = key << BITS | (i < entryCount && i < entries.length ? entries[i] : 0);
            }
            return key;
        }

        int signsOf(int k) {
            return digitOf(k, 0);
        }

        int signOf(int k, int i) {
            return digitOf(k, 1 + i);
        }

        int entriesOf(int k) {
            return digitOf(k, ENTRY_COUNT);
        }

        int entryOf(int k, int i) {
            return digitOf(k, ENTRY_COUNT + 1 + i);
        }

        private int digitOf(int k, int digit) {
            long mask = (1L << BITS) - 1;
            return (int) (keys[k] >> BITS * (DIGITS - 1 - digit) & mask);
        }
    }

    private static final class Samples {
        private final Line[] lowers = new Line[MOST_SAMPLES];
        private final Line[] uppers = new Line[MOST_SAMPLES];
        private int count;

        Samples() {
            for (int i = 0; i < MOST_SAMPLES; i++) {
                lowers[i] = new Line(MOST_LOWER_SIGNS);
                uppers[i] = new Line(MOST_UPPER_SIGNS);
            }
        }

        int count() {
            return count;
        }

        Line lowerOf(int number) {
            return lowers[number];
        }

        Line upperOf(int number) {
            return uppers[number];
        }

        int add(Line lower, Line upper) {
            lowers[count].copy(lower);
            uppers[count].copy(upper);
            count++;
            return count - 1;
        }
    }
}
