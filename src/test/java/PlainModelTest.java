import java.util.ArrayList;
import java.util.Comparator;
import java.util.HashMap;
import java.util.HashSet;
import java.util.List;
import java.util.Map;
import java.util.Random;
import java.util.Set;

/**
 * Runs of calls from fixed seeds against a second writing of the document that is made to be plain,
 * not quick: texts for rows, every parting, every row of words.
 */
public final class PlainModelTest {
    private static final int RUNS = 400;
    private static final int CALLS = 512;

    public static void main(String[] args) {
        Check check = new Check();
        for (int run = 0; run < RUNS && check.isFine(); run++) {
            Run made = new Run(check, run);
            for (int call = 0; call < CALLS; call++) {
                made.step();
            }
        }
        check.end();
    }

    /** The document once more. */
    private static final class Model {
        static final class Edit {
            final int kind;
            final int place;

            Edit(int kind, int place) {
                this.kind = kind;
                this.place = place;
            }
        }

        String typed = "";
        final List<String> words = new ArrayList<>();
        final List<Integer> counts = new ArrayList<>();
        final int[] prices = {2, 2, 3, 1, 5, 4};
        final Map<String, Integer> own = new HashMap<>();
        final List<String> tokens = new ArrayList<>();
        final Set<String> pairs = new HashSet<>();
        private final Map<String, Integer> known = new HashMap<>();

        boolean no(int word) {
            return word < 0 || word >= words.size();
        }

        int letter(int c) {
            if (c < 0 || c > 25) return -1;
            if (typed.length() == 12) return -4;
            typed += (char) ('a' + c);
            return typed.length();
        }

        int clear() {
            int had = typed.length();
            typed = "";
            return had;
        }

        int word(int count) {
            if (count < 1 || count > 1000 || typed.isEmpty()) return -2;
            if (words.contains(typed)) return -3;
            if (words.size() == 60) return -4;
            words.add(typed);
            counts.add(count);
            return words.size() - 1;
        }

        int count(int word, int n) {
            if (no(word)) return -1;
            if (n < 1 || n > 1000) return -2;
            return counts.set(word, n);
        }

        int at(int word, int i) {
            if (no(word)) return -1;
            String text = words.get(word);
            if (i == -1) return (int) words.stream().filter(w -> w.compareTo(text) < 0).count();
            if (i == -2) return text.length();
            return i < 0 || i >= text.length() ? -1 : text.charAt(i) - 'a';
        }

        int price(int kind, int v) {
            if (kind < 0 || kind > 5 || v < 0 || v > (kind < 4 ? 9 : 50)) return -2;
            int was = prices[kind];
            prices[kind] = v;
            known.clear();
            return was;
        }

        int near(int a, int b, int v) {
            if (a < 0 || a > 25 || b < 0 || b > 25 || a == b) return -1;
            if (v < -1 || v > 9) return -2;
            known.clear();
            String key = "" + (char) ('a' + a) + (char) ('a' + b);
            Integer was = v == -1 ? own.remove(key) : own.put(key, v);
            return was == null ? -3 : was;
        }

        int becoming(char a, char b) {
            return own.getOrDefault("" + a + b, prices[2]);
        }

        /** From the front, where the program goes from the end. */
        int least(String from, String to) {
            if (from.isEmpty()) return to.length() * prices[0];
            if (to.isEmpty()) return from.length() * prices[1];
            String key = from + ">" + to;
            Integer had = known.get(key);
            if (had != null) return had;
            char a = from.charAt(0);
            char b = to.charAt(0);
            int best = least(from.substring(1), to) + prices[1];
            best = Math.min(best, least(from, to.substring(1)) + prices[0]);
            best = Math.min(best, least(from.substring(1), to.substring(1)) + (a == b ? 0 : becoming(a, b)));
            if (from.length() > 1 && to.length() > 1 && a == to.charAt(1) && b == from.charAt(1)) {
                best = Math.min(best, least(from.substring(2), to.substring(2)) + prices[3]);
            }
            known.put(key, best);
            return best;
        }

        int leastBeginning(String to) {
            int best = Integer.MAX_VALUE;
            for (int n = 0; n <= to.length(); n++) {
                best = Math.min(best, least(typed, to.substring(0, n)));
            }
            return best;
        }

        static String less(String text, int n) {
            return text.substring(0, text.length() - n);
        }

        void edits(String from, String to, List<Edit> found) {
            if (from.isEmpty() && to.isEmpty()) return;
            int due = least(from, to);
            int i = from.length();
            int j = to.length();
            if (i > 0 && j > 0 && from.charAt(i - 1) == to.charAt(j - 1)
                    && least(less(from, 1), less(to, 1)) == due) {
                edits(less(from, 1), less(to, 1), found);
            } else if (i > 0 && j > 0 && from.charAt(i - 1) != to.charAt(j - 1)
                    && least(less(from, 1), less(to, 1)) + becoming(from.charAt(i - 1), to.charAt(j - 1)) == due) {
                edits(less(from, 1), less(to, 1), found);
                found.add(new Edit(2, i - 1));
            } else if (i > 1 && j > 1 && to.endsWith("" + from.charAt(i - 1) + from.charAt(i - 2))
                    && least(less(from, 2), less(to, 2)) + prices[3] == due) {
                edits(less(from, 2), less(to, 2), found);
                found.add(new Edit(3, i - 2));
            } else if (i > 0 && least(less(from, 1), to) + prices[1] == due) {
                edits(less(from, 1), to, found);
                found.add(new Edit(1, i - 1));
            } else {
                if (least(from, less(to, 1)) + prices[0] != due) {
                    throw new IllegalStateException("no edit is as cheap");
                }
                edits(from, less(to, 1), found);
                found.add(new Edit(0, i));
            }
        }

        int edit(int word, int k, boolean place) {
            if (no(word)) return -1;
            List<Edit> found = new ArrayList<>();
            edits(typed, words.get(word), found);
            if (k == -1 && !place) return found.size();
            if (k < 0 || k >= found.size()) return -1;
            return place ? found.get(k).place : found.get(k).kind;
        }

        int costOf(int word, boolean beginning) {
            return beginning ? leastBeginning(words.get(word)) : least(typed, words.get(word));
        }

        List<Integer> ranked(int limit, boolean beginning) {
            List<Integer> row = new ArrayList<>();
            for (int word = 0; word < words.size(); word++) {
                if (costOf(word, beginning) <= limit) row.add(word);
            }
            row.sort(Comparator.comparing((Integer w) -> costOf(w, beginning))
                    .thenComparing(w -> -counts.get(w))
                    .thenComparing(w -> words.get(w)));
            return row;
        }

        int howMany(int limit, boolean beginning) {
            return limit < 0 || limit > 50 ? -2 : ranked(limit, beginning).size();
        }

        int oneOf(int limit, int i, boolean beginning) {
            if (limit < 0 || limit > 50) return -2;
            List<Integer> row = ranked(limit, beginning);
            return i < 0 || i >= row.size() ? -1 : row.get(i);
        }

        int parting(int what) {
            if (what < 0 || what > 3) return -2;
            int[] best = null;
            for (int cut = 1; cut < typed.length(); cut++) {
                for (int left = 0; left < words.size(); left++) {
                    int leftCost = least(typed.substring(0, cut), words.get(left));
                    for (int right = 0; right < words.size(); right++) {
                        int cost = leftCost + least(typed.substring(cut), words.get(right)) + prices[4];
                        int[] it = {cost, cut, left, right};
                        if (best == null || isBetter(it, best)) best = it;
                    }
                }
            }
            return best == null ? -3 : best[what];
        }

        boolean isBetter(int[] a, int[] b) {
            if (a[0] != b[0]) return a[0] < b[0];
            if (a[1] != b[1]) return a[1] < b[1];
            if (a[2] != b[2]) return words.get(a[2]).compareTo(words.get(b[2])) < 0;
            return words.get(a[3]).compareTo(words.get(b[3])) < 0;
        }

        int token() {
            if (typed.isEmpty()) return -2;
            if (tokens.size() == 6) return -4;
            tokens.add(typed);
            typed = "";
            return tokens.size();
        }

        int line() {
            int had = tokens.size();
            tokens.clear();
            return had;
        }

        int pair(int a, int b, boolean on) {
            if (no(a) || no(b)) return -1;
            String key = a + " " + b;
            return (on ? pairs.add(key) : pairs.remove(key)) ? 1 : 0;
        }

        private List<Integer> bestRow;
        private int bestCost;

        int chosen(int limit, int k) {
            if (limit < 0 || limit > 50) return -2;
            if (k < -1 || k >= tokens.size()) return -1;
            List<List<Integer>> within = new ArrayList<>();
            for (String token : tokens) {
                List<Integer> row = new ArrayList<>();
                for (int word = 0; word < words.size(); word++) {
                    if (least(token, words.get(word)) <= limit) row.add(word);
                }
                row.sort(Comparator.comparing(words::get));
                if (row.isEmpty()) return -3;
                within.add(row);
            }
            if (within.isEmpty()) return -3;
            bestRow = null;
            bestCost = Integer.MAX_VALUE;
            everyRow(within, new ArrayList<>(), 0);
            return k == -1 ? bestCost : bestRow.get(k);
        }

        /** Rows come in ORDER, so that of like ones the first that is met is due. */
        void everyRow(List<List<Integer>> within, List<Integer> row, int cost) {
            if (cost >= bestCost) return;
            int k = row.size();
            if (k == within.size()) {
                bestCost = cost;
                bestRow = new ArrayList<>(row);
                return;
            }
            for (int word : within.get(k)) {
                int more = least(tokens.get(k), words.get(word));
                if (k > 0 && !pairs.contains(row.get(k - 1) + " " + word)) more += prices[5];
                row.add(word);
                everyRow(within, row, cost + more);
                row.remove(k);
            }
        }

        long share(int word) {
            if (no(word)) return -1;
            if (typed.isEmpty()) return Speller.THROWN;
            return 1000L * least(typed, words.get(word)) / typed.length();
        }
    }

    /** One object and its model, and calls for both. */
    private static final class Run {
        private final Check check;
        private final int number;
        private final Random random;
        private final Speller x = new Speller();
        private final Model m = new Model();
        private final int alphabet;
        private final int mostWords;
        private final int mostTokens;
        private int calls = 0;

        Run(Check check, int number) {
            this.check = check;
            this.number = number;
            random = new Random(number);
            alphabet = 2 + random.nextInt(number % 8 == 0 ? 25 : 4);
            mostWords = number % 8 == 0 ? 61 : 3 + random.nextInt(10);
            mostTokens = mostWords > 20 ? 3 : 7;
        }

        private void due(String call, long got, long want) {
            check.due("run " + number + ": " + call, got, want);
        }

        /** Mostly within 0 .. below - 1, now and then just outside, seldom far. */
        private int some(int below) {
            int kind = random.nextInt(40);
            if (kind == 0) return -1 - random.nextInt(2);
            if (kind == 1) return below + random.nextInt(2);
            if (kind == 2) return random.nextInt();
            return random.nextInt(Math.max(below, 1));
        }

        private int someWord() {
            return some(m.words.size());
        }

        private int someLimit() {
            return random.nextInt(4) == 0 ? some(51) : random.nextInt(9);
        }

        private int someLetter() {
            return random.nextInt(60) == 0 ? some(26) : random.nextInt(alphabet);
        }

        void step() {
            calls++;
            if (mostWords > 60 && calls < 200) {
                fillUp();
                return;
            }
            int kind = random.nextInt(100);
            if (kind < 42) {
                type(kind);
            } else if (kind < 58) {
                set(kind);
            } else if (kind < 80) {
                ask(kind);
            } else {
                lines(kind);
            }
        }

        /** Many words soon, so that the later calls meet a full house. */
        private void fillUp() {
            type(m.typed.length() == 12 ? 26 : calls % 2 == 0 ? 31 : 0);
        }

        private void type(int kind) {
            if (kind < 26) {
                int c = someLetter();
                due("letter(" + c + ")", x.letter(c), m.letter(c));
            } else if (kind < 31) {
                due("clear()", x.clear(), m.clear());
            } else {
                int n = random.nextInt(9) == 0 ? some(1001) : 1 + random.nextInt(3);
                if (m.words.size() < mostWords) due("word(" + n + ")", x.word(n), m.word(n));
            }
        }

        private void set(int kind) {
            if (kind < 44) {
                int word = someWord();
                int n = random.nextBoolean() ? some(1001) : 1 + random.nextInt(3);
                due("count(" + word + ", " + n + ")", x.count(word, n), m.count(word, n));
            } else if (kind < 48) {
                int of = some(6);
                int v = random.nextInt(3) == 0 ? random.nextInt(3) : some(of > 3 ? 51 : 10);
                due("price(" + of + ", " + v + ")", x.price(of, v), m.price(of, v));
            } else if (kind < 51) {
                int a = someLetter();
                int b = someLetter();
                int v = random.nextInt(3) == 0 ? -1 : some(10);
                due("near(" + a + ", " + b + ", " + v + ")", x.near(a, b, v), m.near(a, b, v));
            } else {
                int word = someWord();
                int i = random.nextInt(3) == 0 ? -1 - random.nextInt(3) : some(12);
                due("at(" + word + ", " + i + ")", x.at(word, i), m.at(word, i));
            }
        }

        private void ask(int kind) {
            int word = someWord();
            int k = some(6) - (random.nextInt(4) == 0 ? 1 : 0);
            int limit = someLimit();
            if (kind < 60) {
                due("distance(" + word + ")", x.distance(word), m.no(word) ? -1 : m.costOf(word, false));
            } else if (kind < 62) {
                due("begins(" + word + ")", x.begins(word), m.no(word) ? -1 : m.costOf(word, true));
            } else if (kind < 65) {
                due("edit(" + word + ", " + k + ")", x.edit(word, k), m.edit(word, k, false));
            } else if (kind < 68) {
                due("place(" + word + ", " + k + ")", x.place(word, k), m.edit(word, k, true));
            } else if (kind < 69) {
                due("suggest(" + limit + ")", x.suggest(limit), m.howMany(limit, false));
            } else if (kind < 72) {
                due("suggestion(" + limit + ", " + k + ")", x.suggestion(limit, k), m.oneOf(limit, k, false));
            } else if (kind < 73) {
                due("endings(" + limit + ")", x.endings(limit), m.howMany(limit, true));
            } else if (kind < 76) {
                due("ending(" + limit + ", " + k + ")", x.ending(limit, k), m.oneOf(limit, k, true));
            } else {
                int what = some(4);
                due("parting(" + what + ")", x.parting(what), m.parting(what));
            }
        }

        private void lines(int kind) {
            if (kind < 86) {
                if (m.tokens.size() < mostTokens) due("token()", x.token(), m.token());
            } else if (kind < 87) {
                due("line()", x.line(), m.line());
            } else if (kind < 92) {
                int a = someWord();
                int b = someWord();
                boolean on = random.nextInt(3) > 0;
                due("pair(" + a + ", " + b + ", " + on + ")", x.pair(a, b, on), m.pair(a, b, on));
            } else if (kind < 98) {
                int limit = someLimit();
                int k = some(7) - 1;
                due("chosen(" + limit + ", " + k + ")", x.chosen(limit, k), m.chosen(limit, k));
            } else {
                int word = someWord();
                due("share(" + word + ")", x.share(word), m.share(word));
            }
        }
    }
}
