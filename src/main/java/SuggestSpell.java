import java.util.Arrays;

/**
 * What may have been meant by what was typed. The document's promises say what each call answers;
 * the words in capitals in the comments are the document's own.
 */
public final class SuggestSpell {
    private static final int LETTERS = 26;
    private static final int MOST_LETTERS = 12;
    private static final int MOST_WORDS = 60;
    private static final int MOST_TOKENS = 6;
    private static final int MOST_COUNT = 1000;
    private static final int MOST_LIMIT = 50;

    private static final int PUT_IN = 0;
    private static final int LEFT_OUT = 1;
    private static final int BECOMES = 2;
    private static final int CHANGE_PLACES = 3;
    private static final int PARTED = 4;
    private static final int NO_PAIR = 5;
    private static final int KINDS = 6;
    private static final int MOST_EDIT_PRICE = 9;
    private static final int MOST_JOINT_PRICE = 50;

    private static final int NO_SUCH = -1;
    private static final int OUT_OF_BOUNDS = -2;
    private static final int AS_TOLD = -3;
    private static final int NO_ROOM = -4;

    // Above every sum of prices that can be, and so low that a few of them still add up to an int.
    private static final int NEVER = 1000000;

    private final Row typed = new Row();
    private final Prices prices = new Prices();
    private final Words words = new Words();
    private final Line tokens = new Line();
    private final Table table = new Table(prices);
    private final Ranking ranking = new Ranking();
    private final Parting best = new Parting();
    private final Choice choice = new Choice();

    public SuggestSpell() {
    }

    // ---- typed, words

    public int letter(int c) {
        if (!isLetter(c)) {
            return NO_SUCH;
        }
        if (!typed.add(c)) {
            return NO_ROOM;
        }
        return typed.length;
    }

    public int clear() {
        int had = typed.length;
        typed.length = 0;
        return had;
    }

    public int word(int count) {
        if (!isCount(count) || typed.length == 0) {
            return OUT_OF_BOUNDS;
        }
        if (words.hasRow(typed)) {
            return AS_TOLD;
        }
        if (words.size >= MOST_WORDS) {
            return NO_ROOM;
        }
        return words.add(typed, count);
    }

    public int count(int word, int n) {
        if (!words.has(word)) {
            return NO_SUCH;
        }
        if (!isCount(n)) {
            return OUT_OF_BOUNDS;
        }
        int was = words.counts[word];
        words.counts[word] = n;
        return was;
    }

    public int at(int word, int i) {
        if (!words.has(word)) {
            return NO_SUCH;
        }
        Row row = words.rows[word];
        if (i == -1) {
            return words.rankOf(word);
        }
        if (i == -2) {
            return row.length;
        }
        if (i < 0 || i >= row.length) {
            return NO_SUCH;
        }
        return row.letters[i];
    }

    public int price(int kind, int v) {
        if (kind < 0 || kind >= KINDS) {
            return OUT_OF_BOUNDS;
        }
        int most = kind == PARTED || kind == NO_PAIR ? MOST_JOINT_PRICE : MOST_EDIT_PRICE;
        if (v < 0 || v > most) {
            return OUT_OF_BOUNDS;
        }
        int was = prices.ofKind[kind];
        prices.ofKind[kind] = v;
        return was;
    }

    public int near(int a, int b, int v) {
        if (!isLetter(a) || !isLetter(b) || a == b) {
            return NO_SUCH;
        }
        if (v < Prices.NONE || v > MOST_EDIT_PRICE) {
            return OUT_OF_BOUNDS;
        }
        int was = prices.own[a][b];
        prices.own[a][b] = v;
        return was == Prices.NONE ? AS_TOLD : was;
    }

    // ---- edits

    public int distance(int word) {
        if (!words.has(word)) {
            return NO_SUCH;
        }
        return priceOfWord(word);
    }

    public int begins(int word) {
        if (!words.has(word)) {
            return NO_SUCH;
        }
        table.measure(typed, words.rows[word]);
        return table.leastOfBeginnings();
    }

    public int edit(int word, int k) {
        if (!words.has(word)) {
            return NO_SUCH;
        }
        findEdits(word);
        if (k == -1) {
            return table.edits;
        }
        if (k < 0 || k >= table.edits) {
            return NO_SUCH;
        }
        return table.kindOfEdit(k);
    }

    public int place(int word, int k) {
        if (!words.has(word)) {
            return NO_SUCH;
        }
        findEdits(word);
        if (k < 0 || k >= table.edits) {
            return NO_SUCH;
        }
        return table.placeOfEdit(k);
    }

    // ---- suggestions

    public int suggest(int limit) {
        return howMany(limit, false);
    }

    public int suggestion(int limit, int i) {
        return rankedWord(limit, i, false);
    }

    public int endings(int limit) {
        return howMany(limit, true);
    }

    public int ending(int limit, int i) {
        return rankedWord(limit, i, true);
    }

    public int parting(int what) {
        if (what < 0 || what > 3) {
            return OUT_OF_BOUNDS;
        }
        if (words.size == 0 || typed.length < 2) {
            return AS_TOLD;
        }
        best.find(typed, words, table, prices.ofKind[PARTED]);
        switch (what) {
            case 0:
                return best.cost;
            case 1:
                return best.cut;
            case 2:
                return best.leftWord;
            default:
                return best.rightWord;
        }
    }

    // ---- lines

    public int token() {
        if (typed.length == 0) {
            return OUT_OF_BOUNDS;
        }
        if (!tokens.add(typed)) {
            return NO_ROOM;
        }
        typed.length = 0;
        return tokens.size;
    }

    public int line() {
        int had = tokens.size;
        tokens.size = 0;
        return had;
    }

    public int pair(int a, int b, boolean on) {
        if (!words.has(a) || !words.has(b)) {
            return NO_SUCH;
        }
        return words.setPair(a, b, on) ? 1 : 0;
    }

    public int chosen(int limit, int k) {
        if (!isLimit(limit)) {
            return OUT_OF_BOUNDS;
        }
        if (k < -1 || k >= tokens.size) {
            return NO_SUCH;
        }
        choice.measure(tokens, words, table, limit);
        int cost = choice.choose(tokens.size, words, prices.ofKind[NO_PAIR]);
        if (cost >= NEVER) {
            return AS_TOLD;
        }
        return k == -1 ? cost : choice.row[k];
    }

    public int share(int word) throws ArithmeticException {
        if (!words.has(word)) {
            return NO_SUCH;
        }
        if (typed.length == 0) {
            throw new ArithmeticException("nothing is typed");
        }
        return 1000 * priceOfWord(word) / typed.length;
    }

    private static boolean isLetter(int c) {
        return c >= 0 && c < LETTERS;
    }

    private static boolean isCount(int n) {
        return n >= 1 && n <= MOST_COUNT;
    }

    private static boolean isLimit(int limit) {
        return limit >= 0 && limit <= MOST_LIMIT;
    }

    private int priceOfWord(int word) {
        return table.measure(typed, words.rows[word]);
    }

    private void findEdits(int word) {
        table.measure(typed, words.rows[word]);
        table.trace();
    }

    private int howMany(int limit, boolean beginnings) {
        if (!isLimit(limit)) {
            return OUT_OF_BOUNDS;
        }
        rankWords(limit, beginnings);
        return ranking.size;
    }

    private int rankedWord(int limit, int i, boolean beginnings) {
        if (!isLimit(limit)) {
            return OUT_OF_BOUNDS;
        }
        rankWords(limit, beginnings);
        if (i < 0 || i >= ranking.size) {
            return NO_SUCH;
        }
        return ranking.numbers[i];
    }

    private void rankWords(int limit, boolean beginnings) {
        ranking.size = 0;
        for (int rank = 0; rank < words.size; rank++) {
            int word = words.inOrder[rank];
            int whole = table.measure(typed, words.rows[word]);
            int cost = beginnings ? table.leastOfBeginnings() : whole;
            if (cost <= limit) {
                ranking.add(word, cost, words.counts[word]);
            }
        }
    }

    /** A row of LETTERS: THE TYPED, a word, a TOKEN. */
    private static final class Row {
        final int[] letters = new int[MOST_LETTERS];
        int length = 0;

        boolean add(int c) {
            if (length >= MOST_LETTERS) {
                return false;
            }
            letters[length] = c;
            length++;
            return true;
        }

        void copyOf(Row other) {
            length = 0;
            for (int i = 0; i < other.length; i++) {
                add(other.letters[i]);
            }
        }

        void mirrorOf(Row other) {
            length = 0;
            for (int i = other.length - 1; i >= 0; i--) {
                add(other.letters[i]);
            }
        }

        /** Below 0 if this row is ahead of the other one in ORDER, 0 if they are alike. */
        int compareWith(Row other) {
            int shorter = Math.min(length, other.length);
            for (int i = 0; i < shorter; i++) {
                if (letters[i] != other.letters[i]) {
                    return letters[i] - other.letters[i];
                }
            }
            return length - other.length;
        }
    }

    /** The PRICES of the six kinds, and those that a LETTER has of its own for becoming another. */
    private static final class Prices {
        static final int NONE = -1;

        final int[] ofKind = {2, 2, 3, 1, 5, 4};
        final int[][] own = new int[LETTERS][LETTERS];

        Prices() {
            for (int a = 0; a < LETTERS; a++) {
                Arrays.fill(own[a], NONE);
            }
        }

        int ofBecoming(int a, int b) {
            if (a == b) {
                return 0;
            }
            int itsOwn = own[a][b];
            return itsOwn == NONE ? ofKind[BECOMES] : itsOwn;
        }
    }

    /** The WORDS in the row in which they were told, their ORDER, and the PAIRS that are known. */
    private static final class Words {
        final Row[] rows = new Row[MOST_WORDS];
        final int[] counts = new int[MOST_WORDS];
        final int[] inOrder = new int[MOST_WORDS];
        final boolean[] pairs = new boolean[MOST_WORDS * MOST_WORDS];
        int size = 0;

        Words() {
            for (int i = 0; i < MOST_WORDS; i++) {
                rows[i] = new Row();
            }
        }

        boolean has(int word) {
            return word >= 0 && word < size;
        }

        boolean hasRow(Row row) {
            for (int i = 0; i < size; i++) {
                if (rows[i].compareWith(row) == 0) {
                    return true;
                }
            }
            return false;
        }

        /** The caller has seen that there is room. */
        int add(Row row, int count) {
            int word = size;
            rows[word].copyOf(row);
            counts[word] = count;
            int rank = size;
            while (rank > 0 && row.compareWith(rows[inOrder[rank - 1]]) < 0) {
                inOrder[rank] = inOrder[rank - 1];
                rank--;
            }
            inOrder[rank] = word;
            size++;
            return word;
        }

        int rankOf(int word) {
            int ahead = 0;
            for (int i = 0; i < size && inOrder[i] != word; i++) {
                ahead++;
            }
            return ahead;
        }

        boolean isPair(int first, int behind) {
            return pairs[first * MOST_WORDS + behind];
        }

        /** Whether that is new. */
        boolean setPair(int first, int behind, boolean on) {
            boolean was = isPair(first, behind);
            pairs[first * MOST_WORDS + behind] = on;
            return was != on;
        }
    }

    /** THE LINE. */
    private static final class Line {
        final Row[] rows = new Row[MOST_TOKENS];
        int size = 0;

        Line() {
            for (int i = 0; i < MOST_TOKENS; i++) {
                rows[i] = new Row();
            }
        }

        boolean add(Row row) {
            if (size >= MOST_TOKENS) {
                return false;
            }
            rows[size].copyOf(row);
            size++;
            return true;
        }
    }

    /** The least prices of making each beginning of what was typed into each beginning of a word. */
    private static final class Table {
        private final Prices prices;
        private final Row typed = new Row();
        private final Row word = new Row();
        private final int[][] least = new int[MOST_LETTERS + 1][MOST_LETTERS + 1];
        // THE EDITS are found from the end, so the last one stands first here.
        private final int[] kinds = new int[2 * MOST_LETTERS];
        private final int[] places = new int[2 * MOST_LETTERS];
        int edits = 0;

        Table(Prices prices) {
            this.prices = prices;
        }

        /** DISTANCE of a row to a word; the questions below are about what was measured last. */
        int measure(Row row, Row aim) {
            typed.copyOf(row);
            word.copyOf(aim);
            fill();
            return priceOfFirst(typed.length);
        }

        /** As measure, from the other end, where each EDIT has its mirror image of the same PRICE. */
        void measureMirrored(Row row, Row aim) {
            typed.mirrorOf(row);
            word.mirrorOf(aim);
            fill();
        }

        /** What it costs to make the first LETTERS of what was typed into the whole word. */
        int priceOfFirst(int letters) {
            return letters < 0 || letters > typed.length ? NEVER : least[letters][word.length];
        }

        int leastOfBeginnings() {
            int found = NEVER;
            for (int j = 0; j <= word.length; j++) {
                found = Math.min(found, least[typed.length][j]);
            }
            return found;
        }

        /** Finds THE EDITS. */
        void trace() {
            edits = 0;
            int i = typed.length;
            int j = word.length;
            for (int step = 0; step < 2 * MOST_LETTERS && i + j > 0; step++) {
                int due = least[i][j];
                if (i > 0 && j > 0 && due == byLast(i, j)) {
                    i--;
                    j--;
                    if (typed.letters[i] != word.letters[j]) {
                        note(BECOMES, i);
                    }
                } else if (mayChange(i, j) && due == byChange(i, j)) {
                    i -= 2;
                    j -= 2;
                    note(CHANGE_PLACES, i);
                } else if (i > 0 && due == least[i - 1][j] + prices.ofKind[LEFT_OUT]) {
                    i--;
                    note(LEFT_OUT, i);
                } else if (j > 0) {
                    j--;
                    note(PUT_IN, i);
                }
            }
        }

        int kindOfEdit(int k) {
            return kinds[edits - 1 - k];
        }

        int placeOfEdit(int k) {
            return places[edits - 1 - k];
        }

        private void note(int kind, int where) {
            kinds[edits] = kind;
            places[edits] = where;
            edits++;
        }

        private void fill() {
            least[0][0] = 0;
            for (int j = 1; j <= word.length; j++) {
                least[0][j] = least[0][j - 1] + prices.ofKind[PUT_IN];
            }
            for (int i = 1; i <= typed.length; i++) {
                least[i][0] = least[i - 1][0] + prices.ofKind[LEFT_OUT];
                for (int j = 1; j <= word.length; j++) {
                    least[i][j] = cheapest(i, j);
                }
            }
        }

        /** For a LETTER at least of each; what is shorter is in the table already. */
        private int cheapest(int i, int j) {
            int found = byLast(i, j);
            found = Math.min(found, least[i - 1][j] + prices.ofKind[LEFT_OUT]);
            found = Math.min(found, least[i][j - 1] + prices.ofKind[PUT_IN]);
            return mayChange(i, j) ? Math.min(found, byChange(i, j)) : found;
        }

        /** Both last LETTERS stand for each other: they are the same, or one becomes the other. */
        private int byLast(int i, int j) {
            return least[i - 1][j - 1] + prices.ofBecoming(typed.letters[i - 1], word.letters[j - 1]);
        }

        private boolean mayChange(int i, int j) {
            return i > 1 && j > 1
                    && typed.letters[i - 2] == word.letters[j - 1]
                    && typed.letters[i - 1] == word.letters[j - 2];
        }

        private int byChange(int i, int j) {
            return least[i - 2][j - 2] + prices.ofKind[CHANGE_PLACES];
        }
    }

    /** Words by price, then by the greater COUNT; they are added in ORDER, and likes keep it. */
    private static final class Ranking {
        final int[] numbers = new int[MOST_WORDS];
        private final int[] costs = new int[MOST_WORDS];
        private final int[] counts = new int[MOST_WORDS];
        int size = 0;

        void add(int number, int cost, int count) {
            if (size >= MOST_WORDS) {
                return;
            }
            int i = size;
            while (i > 0 && isBehind(i - 1, cost, count)) {
                numbers[i] = numbers[i - 1];
                costs[i] = costs[i - 1];
                counts[i] = counts[i - 1];
                i--;
            }
            numbers[i] = number;
            costs[i] = cost;
            counts[i] = count;
            size++;
        }

        private boolean isBehind(int i, int cost, int count) {
            return costs[i] > cost || costs[i] == cost && counts[i] < count;
        }
    }

    /** For each length of one side of a PARTING the closest word; of like ones the first offered. */
    private static final class Side {
        final int[] numbers = new int[MOST_LETTERS + 1];
        final int[] costs = new int[MOST_LETTERS + 1];

        void empty() {
            Arrays.fill(costs, NEVER);
        }

        /** The word is the one that the table measured last. */
        void offer(int number, Table table, int most) {
            for (int letters = 1; letters <= most; letters++) {
                int cost = table.priceOfFirst(letters);
                if (cost < costs[letters]) {
                    costs[letters] = cost;
                    numbers[letters] = number;
                }
            }
        }
    }

    /** The best PARTING. */
    private static final class Parting {
        private final Side left = new Side();
        private final Side right = new Side();
        int cost = NEVER;
        int cut = 0;
        int leftWord = 0;
        int rightWord = 0;

        void find(Row typed, Words words, Table table, int partingPrice) {
            fillSides(typed, words, table);
            cost = NEVER;
            for (int letters = 1; letters < typed.length; letters++) {
                int others = typed.length - letters;
                int both = left.costs[letters] + right.costs[others] + partingPrice;
                if (both < cost) {
                    cost = both;
                    cut = letters;
                    leftWord = left.numbers[letters];
                    rightWord = right.numbers[others];
                }
            }
        }

        private void fillSides(Row typed, Words words, Table table) {
            left.empty();
            right.empty();
            for (int rank = 0; rank < words.size; rank++) {
                int word = words.inOrder[rank];
                table.measure(typed, words.rows[word]);
                left.offer(word, table, typed.length - 1);
                table.measureMirrored(typed, words.rows[word]);
                right.offer(word, table, typed.length - 1);
            }
        }
    }

    /**
     * CHOSEN. The tables go by a word's number in ORDER, so that of like ones the first that is met
     * is the one that is due.
     */
    private static final class Choice {
        private final int[][] distances = new int[MOST_TOKENS][MOST_WORDS];
        private final int[][] costs = new int[MOST_TOKENS][MOST_WORDS];
        private final int[][] next = new int[MOST_TOKENS][MOST_WORDS];
        final int[] row = new int[MOST_TOKENS];

        void measure(Line line, Words words, Table table, int limit) {
            for (int k = 0; k < line.size; k++) {
                for (int rank = 0; rank < words.size; rank++) {
                    int price = table.measure(line.rows[k], words.rows[words.inOrder[rank]]);
                    distances[k][rank] = price <= limit ? price : NEVER;
                }
            }
        }

        /** What the cheapest row of words costs; NEVER or more if there is none. */
        int choose(int length, Words words, int noPairPrice) {
            if (length < 1 || words.size < 1) {
                return NEVER;
            }
            for (int k = length - 1; k >= 0; k--) {
                for (int rank = 0; rank < words.size; rank++) {
                    costs[k][rank] = distances[k][rank];
                    if (costs[k][rank] < NEVER && k + 1 < length) {
                        goOn(k, rank, words, noPairPrice);
                    }
                }
            }
            int first = cheapestFirst(words.size);
            if (costs[0][first] < NEVER) {
                keepRow(first, length, words);
            }
            return costs[0][first];
        }

        /** Adds what the rest of THE LINE costs behind a word for TOKEN k. */
        private void goOn(int k, int rank, Words words, int noPairPrice) {
            int least = Integer.MAX_VALUE;
            for (int other = 0; other < words.size; other++) {
                boolean known = words.isPair(words.inOrder[rank], words.inOrder[other]);
                int cost = costs[k + 1][other] + (known ? 0 : noPairPrice);
                if (cost < least) {
                    least = cost;
                    next[k][rank] = other;
                }
            }
            costs[k][rank] += least;
        }

        private int cheapestFirst(int size) {
            int first = 0;
            for (int rank = 1; rank < size; rank++) {
                if (costs[0][rank] < costs[0][first]) {
                    first = rank;
                }
            }
            return first;
        }

        private void keepRow(int first, int length, Words words) {
            int rank = first;
            row[0] = words.inOrder[rank];
            for (int k = 1; k < length; k++) {
                rank = next[k - 1][rank];
                row[k] = words.inOrder[rank];
            }
        }
    }
}
