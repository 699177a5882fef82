/**
 * A SuggestSpell that counts its calls: nothing is promised about an object after its 512th one, so
 * no test may lean on a later answer. Letters may be told as text ('a' is LETTER 0).
 */
final class Speller {
    static final int MOST_CALLS = 512;
    /** What share answers here where it throws what the document names. */
    static final long THROWN = Long.MIN_VALUE;
    /** And where the machine itself threw it, which the class must never come to. */
    private static final long THROWN_BY_MACHINE = Long.MIN_VALUE + 1;

    private final SuggestSpell x = new SuggestSpell();
    private int calls = 0;

    private SuggestSpell next() {
        calls++;
        if (calls > MOST_CALLS) {
            throw new IllegalStateException("this test makes more than " + MOST_CALLS + " calls of one object");
        }
        return x;
    }

    int calls() {
        return calls;
    }

    void type(String text) {
        clear();
        for (int i = 0; i < text.length(); i++) {
            letter(text.charAt(i) - 'a');
        }
    }

    int tell(String text, int count) {
        type(text);
        return word(count);
    }

    void tokens(String... texts) {
        line();
        for (String text : texts) {
            type(text);
            token();
        }
    }

    int letter(int c) {
        return next().letter(c);
    }

    int clear() {
        return next().clear();
    }

    int word(int count) {
        return next().word(count);
    }

    int count(int word, int n) {
        return next().count(word, n);
    }

    int at(int word, int i) {
        return next().at(word, i);
    }

    int price(int kind, int v) {
        return next().price(kind, v);
    }

    int near(int a, int b, int v) {
        return next().near(a, b, v);
    }

    int distance(int word) {
        return next().distance(word);
    }

    int begins(int word) {
        return next().begins(word);
    }

    int edit(int word, int k) {
        return next().edit(word, k);
    }

    int place(int word, int k) {
        return next().place(word, k);
    }

    int suggest(int limit) {
        return next().suggest(limit);
    }

    int suggestion(int limit, int i) {
        return next().suggestion(limit, i);
    }

    int endings(int limit) {
        return next().endings(limit);
    }

    int ending(int limit, int i) {
        return next().ending(limit, i);
    }

    int parting(int what) {
        return next().parting(what);
    }

    int token() {
        return next().token();
    }

    int line() {
        return next().line();
    }

    int pair(int a, int b, boolean on) {
        return next().pair(a, b, on);
    }

    int chosen(int limit, int k) {
        return next().chosen(limit, k);
    }

    long share(int word) {
        SuggestSpell it = next();
        try {
            return it.share(word);
        } catch (ArithmeticException e) {
            return "/ by zero".equals(e.getMessage()) ? THROWN_BY_MACHINE : THROWN;
        }
    }
}
