/** What the tests share: answers that are due, and letters told as text ('a' is LETTER 0). */
final class Check {
    private int wrong = 0;
    private int asked = 0;

    void due(String call, long got, long want) {
        asked++;
        if (got != want) {
            wrong++;
            if (wrong <= 40) {
                System.out.println(call + " answered " + got + ", due is " + want);
            }
        }
    }

    boolean isFine() {
        return wrong == 0;
    }

    void end() {
        System.out.println(asked + " answers, " + wrong + " not as due");
        if (wrong != 0 || asked == 0) {
            System.exit(1);
        }
    }

    static void type(SuggestSpell x, String text) {
        x.clear();
        for (int i = 0; i < text.length(); i++) {
            x.letter(text.charAt(i) - 'a');
        }
    }

    static int tell(SuggestSpell x, String text, int count) {
        type(x, text);
        return x.word(count);
    }

    static void tokens(SuggestSpell x, String... texts) {
        x.line();
        for (String text : texts) {
            type(x, text);
            x.token();
        }
    }

    /** The answer of share, or Long.MIN_VALUE where it throws what the document names. */
    static long share(SuggestSpell x, int word) {
        try {
            return x.share(word);
        } catch (ArithmeticException e) {
            return Long.MIN_VALUE;
        }
    }
}
