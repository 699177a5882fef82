import java.util.ArrayList;
import java.util.List;
import java.util.function.ToLongFunction;

/**
 * "REFUSALS change nothing; of several the first one here." Each refused call is made on one of two
 * objects with the same past; whatever can be asked of them must then be answered alike. So must it
 * be behind calls that only ask, and behind changes that were taken back, since a call changes
 * nothing but what it tells.
 */
public final class RefusalsTest {
    private static final Check CHECK = new Check();
    private static final int LOW = Integer.MIN_VALUE;
    private static final int HIGH = Integer.MAX_VALUE;

    public static void main(String[] args) {
        onANewObject();
        amidWork();
        onAFullObject();
        onAFullLine();
        questionsChangeNothing();
        thereAndBack();
        inAnotherRow();
        CHECK.end();
    }

    /** A past that two objects can share. */
    private interface Past {
        Speller make();
    }

    private static void refused(Past past, String call, ToLongFunction<Speller> it, long want) {
        Speller x = past.make();
        CHECK.due(call, it.applyAsLong(x), want);
        CHECK.due(call + " again", it.applyAsLong(x), want);
        alike(call, x, past.make());
    }

    private static void alike(String call, Speller x, Speller untouched) {
        List<String> asked = new ArrayList<>();
        List<Long> got = new ArrayList<>();
        List<Long> want = new ArrayList<>();
        askAll(x, asked, got);
        askAll(untouched, new ArrayList<>(), want);
        for (int i = 0; i < asked.size(); i++) {
            CHECK.due(call + ", then " + asked.get(i), got.get(i), want.get(i));
        }
    }

    private static void askAll(Speller x, List<String> asked, List<Long> answers) {
        for (int k = -1; k < 6; k++) {
            note(asked, answers, "chosen(50, " + k + ")", x.chosen(50, k));
        }
        note(asked, answers, "chosen(3, -1)", x.chosen(3, -1));
        for (int what = 0; what < 4; what++) {
            note(asked, answers, "parting(" + what + ")", x.parting(what));
        }
        for (int limit = 0; limit <= 50; limit += 5) {
            note(asked, answers, "suggest(" + limit + ")", x.suggest(limit));
            note(asked, answers, "endings(" + limit + ")", x.endings(limit));
        }
        askWords(x, asked, answers);
        askPricesAndPairs(x, asked, answers);
        note(asked, answers, "line()", x.line());
        note(asked, answers, "letter(7)", x.letter(7));
        int told = x.word(9);
        note(asked, answers, "word(9)", told);
        for (int i = -2; i < 12; i++) {
            note(asked, answers, "what was typed, " + i, x.at(told, i));
        }
        note(asked, answers, "clear()", x.clear());
    }

    private static void askWords(Speller x, List<String> asked, List<Long> answers) {
        int[] some = {0, 1, 2, 3, 4, 58, 59, 60};
        for (int word : some) {
            note(asked, answers, "distance(" + word + ")", x.distance(word));
            note(asked, answers, "edit(" + word + ", -1)", x.edit(word, -1));
            note(asked, answers, "place(" + word + ", 0)", x.place(word, 0));
            note(asked, answers, "count(" + word + ", 5)", x.count(word, 5));
            for (int i = -2; i < 4; i++) {
                note(asked, answers, "at(" + word + ", " + i + ")", x.at(word, i));
            }
        }
    }

    private static void askPricesAndPairs(Speller x, List<String> asked, List<Long> answers) {
        for (int kind = 0; kind < 6; kind++) {
            note(asked, answers, "price(" + kind + ", 6)", x.price(kind, 6));
        }
        for (int a = 0; a < 3; a++) {
            for (int b = 0; b < 3; b++) {
                note(asked, answers, "near(" + a + ", " + b + ", 6)", x.near(a, b, 6));
                note(asked, answers, "pair(" + a + ", " + b + ", true)", x.pair(a, b, true));
            }
        }
    }

    private static void note(List<String> asked, List<Long> answers, String call, long answer) {
        asked.add(call);
        answers.add(answer);
    }

    private static void onANewObject() {
        Past past = Speller::new;
        refused(past, "new: letter(-1)", x -> x.letter(-1), -1);
        refused(past, "new: letter(26)", x -> x.letter(26), -1);
        refused(past, "new: word(1)", x -> x.word(1), -2);
        refused(past, "new: word(0)", x -> x.word(0), -2);
        refused(past, "new: count(0, 1)", x -> x.count(0, 1), -1);
        refused(past, "new: count(0, 0)", x -> x.count(0, 0), -1);
        refused(past, "new: at(0, 0)", x -> x.at(0, 0), -1);
        refused(past, "new: parting(0)", x -> x.parting(0), -3);
        refused(past, "new: parting(4)", x -> x.parting(4), -2);
        refused(past, "new: token()", x -> x.token(), -2);
        refused(past, "new: pair(0, 0, true)", x -> x.pair(0, 0, true), -1);
        refused(past, "new: chosen(50, -1)", x -> x.chosen(50, -1), -3);
        refused(past, "new: chosen(50, 0)", x -> x.chosen(50, 0), -1);
        refused(past, "new: chosen(51, 0)", x -> x.chosen(51, 0), -2);
        refused(past, "new: share(0)", x -> x.share(0), -1);
    }

    private static Speller busy() {
        Speller x = new Speller();
        x.tell("ab", 7);
        x.tell("a", 1000);
        x.tell("cab", 1);
        x.price(0, 3);
        x.price(1, 1);
        x.price(4, 50);
        x.near(0, 1, 0);
        x.near(2, 1, 9);
        x.near(2, 0, 1);
        x.pair(0, 1, true);
        x.pair(2, 2, true);
        x.tokens("ab", "b", "ca");
        x.type("cab");
        return x;
    }

    private static void amidWork() {
        Past past = RefusalsTest::busy;
        for (int c : new int[] {-1, 26, LOW, HIGH}) {
            refused(past, "busy: letter(" + c + ")", x -> x.letter(c), -1);
            refused(past, "busy: near(" + c + ", 1, 3)", x -> x.near(c, 1, 3), -1);
            refused(past, "busy: near(1, " + c + ", 3)", x -> x.near(1, c, 3), -1);
            refused(past, "busy: near(1, " + c + ", 10)", x -> x.near(1, c, 10), -1);
        }
        for (int n : new int[] {0, -1, 1001, LOW, HIGH}) {
            refused(past, "busy: word(" + n + ")", x -> x.word(n), -2);
            refused(past, "busy: count(1, " + n + ")", x -> x.count(1, n), -2);
            refused(past, "busy: count(3, " + n + ")", x -> x.count(3, n), -1);
        }
        refused(past, "busy: word(1)", x -> x.word(1), -3);
        refused(past, "busy: near(1, 1, 3)", x -> x.near(1, 1, 3), -1);
        refused(past, "busy: near(0, 1, 10)", x -> x.near(0, 1, 10), -2);
        refused(past, "busy: near(0, 1, -2)", x -> x.near(0, 1, -2), -2);
        for (int kind = 0; kind < 6; kind++) {
            int of = kind;
            int most = kind < 4 ? 9 : 50;
            refused(past, "busy: price(" + kind + ", -1)", x -> x.price(of, -1), -2);
            refused(past, "busy: price(" + kind + ", too much)", x -> x.price(of, most + 1), -2);
        }
        refused(past, "busy: price(6, 1)", x -> x.price(6, 1), -2);
        refused(past, "busy: price(-1, 1)", x -> x.price(-1, 1), -2);
        for (int word : new int[] {-1, 3, 60, LOW, HIGH}) {
            ofNoWord(past, word);
        }
        refused(past, "busy: parting(-1)", x -> x.parting(-1), -2);
        refused(past, "busy: parting(4)", x -> x.parting(4), -2);
        refused(past, "busy: chosen(0, -1)", x -> x.chosen(0, -1), -3);
        refused(past, "busy: chosen(0, 2)", x -> x.chosen(0, 2), -3);
        refused(past, "busy: chosen(0, 3)", x -> x.chosen(0, 3), -1);
        refused(past, "busy: chosen(51, 3)", x -> x.chosen(51, 3), -2);
        refused(past, "busy: suggestion(51, 3)", x -> x.suggestion(51, 3), -2);
        refused(past, "busy: suggestion(50, 3)", x -> x.suggestion(50, 3), -1);
        refused(past, "busy: ending(51, 3)", x -> x.ending(51, 3), -2);
        refused(past, "busy: ending(50, 3)", x -> x.ending(50, 3), -1);
        Past cleared = () -> {
            Speller x = busy();
            x.clear();
            return x;
        };
        refused(cleared, "cleared: share(0)", x -> x.share(0), Speller.THROWN);
        refused(cleared, "cleared: share(3)", x -> x.share(3), -1);
        refused(cleared, "cleared: token()", x -> x.token(), -2);
        refused(cleared, "cleared: word(1)", x -> x.word(1), -2);
        refused(cleared, "cleared: parting(0)", x -> x.parting(0), -3);
    }

    private static void ofNoWord(Past past, int word) {
        String busy = "busy, word " + word + ": ";
        refused(past, busy + "count", x -> x.count(word, 1), -1);
        refused(past, busy + "at", x -> x.at(word, 0), -1);
        refused(past, busy + "distance", x -> x.distance(word), -1);
        refused(past, busy + "begins", x -> x.begins(word), -1);
        refused(past, busy + "edit", x -> x.edit(word, -1), -1);
        refused(past, busy + "place", x -> x.place(word, 0), -1);
        refused(past, busy + "pair, first", x -> x.pair(word, 0, true), -1);
        refused(past, busy + "pair, second", x -> x.pair(0, word, true), -1);
        refused(past, busy + "pair, no more", x -> x.pair(0, word, false), -1);
        refused(past, busy + "share", x -> x.share(word), -1);
    }

    /** 60 words, and 12 letters typed that are none of them. */
    private static Speller full() {
        Speller x = new Speller();
        for (int chain = 0; chain < 5; chain++) {
            x.clear();
            for (int n = 0; n < 12; n++) {
                x.letter(chain);
                x.word(1 + chain);
            }
        }
        x.type("abcdefghijkl");
        return x;
    }

    private static void onAFullObject() {
        Past past = RefusalsTest::full;
        refused(past, "full: letter(0)", x -> x.letter(0), -4);
        refused(past, "full: letter(25)", x -> x.letter(25), -4);
        refused(past, "full: letter(26)", x -> x.letter(26), -1);
        refused(past, "full: word(1)", x -> x.word(1), -4);
        refused(past, "full: word(1000)", x -> x.word(1000), -4);
        refused(past, "full: word(0)", x -> x.word(0), -2);
        refused(past, "full: pair(60, 60, true)", x -> x.pair(60, 60, true), -1);
        Past isOne = () -> {
            Speller x = full();
            x.type("aaa");
            return x;
        };
        refused(isOne, "full: word(1) of a word", x -> x.word(1), -3);
        refused(isOne, "full: word(1001) of a word", x -> x.word(1001), -2);
    }

    private static void onAFullLine() {
        Past past = () -> {
            Speller x = busy();
            x.tokens("a", "b", "ab", "cab", "ca", "a");
            x.type("bc");
            return x;
        };
        refused(past, "full line: token()", x -> x.token(), -4);
        refused(past, "full line: chosen(50, 6)", x -> x.chosen(50, 6), -1);
        Past nothing = () -> {
            Speller x = past.make();
            x.clear();
            return x;
        };
        refused(nothing, "full line, nothing typed: token()", x -> x.token(), -2);
    }

    /** The calls that only ask, and near's -3, which is no refusal. */
    private static void questionsChangeNothing() {
        Past past = RefusalsTest::busy;
        ToLongFunction<Speller> asks = x -> {
            long sum = x.at(0, 0) + x.at(0, -1) + x.at(0, -2) + x.distance(1) + x.begins(1);
            sum += x.edit(1, -1) + x.edit(1, 0) + x.place(1, 0) + x.suggest(9) + x.suggestion(9, 1);
            sum += x.endings(9) + x.ending(9, 1) + x.chosen(50, -1) + x.chosen(50, 1) + x.share(1);
            return sum + x.parting(0) + x.parting(3);
        };
        Speller x = past.make();
        CHECK.due("the same answers twice", asks.applyAsLong(x), asks.applyAsLong(x));
        alike("questions", x, past.make());
        askedAlone("at", it -> it.at(0, -1));
        askedAlone("distance", it -> it.distance(1));
        askedAlone("begins", it -> it.begins(1));
        askedAlone("edit", it -> it.edit(1, -1));
        askedAlone("place", it -> it.place(1, 0));
        askedAlone("suggest", it -> it.suggest(9));
        askedAlone("suggestion", it -> it.suggestion(9, 0));
        askedAlone("endings", it -> it.endings(9));
        askedAlone("ending", it -> it.ending(9, 0));
        askedAlone("parting", it -> it.parting(0));
        askedAlone("chosen", it -> it.chosen(50, -1));
        askedAlone("share", it -> it.share(1));
        Speller y = past.make();
        CHECK.due("near(1, 0, 4), none", y.near(1, 0, 4), -3);
        CHECK.due("it is no refusal", y.near(1, 0, 4), 4);
    }

    /** Here what was told is not asked of a twin, which the same questions could have spoiled too. */
    private static void askedAlone(String call, ToLongFunction<Speller> it) {
        Speller x = busy();
        it.applyAsLong(x);
        int[] prices = {3, 1, 3, 1, 50, 4};
        for (int kind = 0; kind < prices.length; kind++) {
            CHECK.due(call + ", then price " + kind, x.price(kind, 0), prices[kind]);
        }
        int[] counts = {7, 1000, 1};
        for (int word = 0; word < counts.length; word++) {
            CHECK.due(call + ", then count of " + word, x.count(word, 1), counts[word]);
        }
        int[][] own = {{-1, 0, -3}, {-3, -1, -3}, {1, 9, -1}};
        for (int a = 0; a < 3; a++) {
            for (int b = 0; b < 3; b++) {
                CHECK.due(call + ", then near " + a + " " + b, x.near(a, b, -1), own[a][b]);
                boolean known = a == 0 && b == 1 || a == 2 && b == 2;
                CHECK.due(call + ", then pair " + a + " " + b, x.pair(a, b, false), known ? 1 : 0);
            }
        }
        CHECK.due(call + ", then line()", x.line(), 3);
        CHECK.due(call + ", then word(1)", x.word(1), -3);
        CHECK.due(call + ", then clear()", x.clear(), 3);
    }

    private static void thereAndBack() {
        back("count", x -> x.count(0, 9), x -> x.count(0, 7), 9);
        back("price of an edit", x -> x.price(0, 9), x -> x.price(0, 3), 9);
        back("price of a parting", x -> x.price(4, 0), x -> x.price(4, 50), 0);
        back("near", x -> x.near(0, 1, 8), x -> x.near(0, 1, 0), 8);
        back("near, where there was none", x -> x.near(1, 2, 8), x -> x.near(1, 2, -1), 8);
        back("pair", x -> x.pair(1, 2, true), x -> x.pair(1, 2, false), 1);
        back("pair, the other way", x -> x.pair(0, 1, false), x -> x.pair(0, 1, true), 1);
        back("clear and letter", x -> x.clear(), x -> {
            x.letter(2);
            x.letter(0);
            return x.letter(1);
        }, 3);
        back("letter and clear", x -> x.letter(9), x -> {
            x.type("cab");
            return 0;
        }, 0);
        back("line and token", x -> x.line(), x -> {
            x.tokens("ab", "b", "ca");
            x.type("cab");
            return 0;
        }, 0);
        back("token", x -> x.token(), x -> {
            x.tokens("ab", "b", "ca");
            x.type("cab");
            return 0;
        }, 0);
    }

    private static void back(String call, ToLongFunction<Speller> there, ToLongFunction<Speller> back, long want) {
        Speller x = busy();
        there.applyAsLong(x);
        CHECK.due(call + ", taken back", back.applyAsLong(x), want);
        alike(call + " there and back", x, busy());
    }

    /** As busy(), the calls coming in another row. */
    private static void inAnotherRow() {
        Speller x = new Speller();
        x.near(2, 1, 9);
        x.near(2, 0, 1);
        x.near(0, 1, 0);
        x.price(4, 50);
        x.tokens("ab", "b", "ca");
        x.tell("ab", 1000);
        x.price(0, 3);
        x.price(1, 1);
        x.tell("a", 1000);
        x.pair(0, 1, true);
        x.count(0, 7);
        x.tell("cab", 1);
        x.pair(2, 2, true);
        alike("in another row", x, busy());
    }
}
