/**
 * Each sentence of the document that names a boundary, with a test of its own on objects of its own.
 * says() tells the sentence; what is not as due is printed behind it.
 */
public final class BoundariesTest {
    private static final Check CHECK = new Check();
    private static final int LOW = Integer.MIN_VALUE;
    private static final int HIGH = Integer.MAX_VALUE;
    private static final String TWELVE = "abcdefghijkl";
    private static String sentence = "";

    private static void says(String text) {
        sentence = text;
    }

    private static void due(String call, long got, long want) {
        CHECK.due("'" + sentence + "': " + call, got, want);
    }

    public static void main(String[] args) {
        theTerms();
        thePricesAndEdits();
        theRanks();
        thePartings();
        theLines();
        typedAndWords();
        edits();
        suggestions();
        lines();
        CHECK.end();
    }

    // ---- Terms

    private static void theTerms() {
        aCallsNumber();
        lettersAre();
        theTypedIsShort();
        wordsAreFew();
        wordsHaveLetters();
        wordsAreUnlike();
        countsAre();
        numbersAreAsTold();
        orderIs();
    }

    private static void aCallsNumber() {
        says("An object is used for at most 512 calls after it has been made");
        Speller x = new Speller();
        x.tell("b", 1);
        x.tell("a", 1);
        x.tokens("a", "b");
        while (x.calls() < 504) {
            x.pair(1, 0, x.calls() % 2 == 0);
        }
        x.pair(1, 0, true);
        x.letter(1);
        x.letter(0);
        due("call 508: distance(0)", x.distance(0), 2);
        due("call 509: suggestion(4, 1)", x.suggestion(4, 1), 0);
        due("call 510: parting(3)", x.parting(3), 1);
        due("call 511: word(3)", x.word(3), 2);
        due("call 512: chosen(0, -1)", x.chosen(0, -1), 0);
    }

    private static void lettersAre() {
        says("LETTERS are 0 .. 25");
        Speller x = new Speller();
        for (int c = 0; c <= 25; c++) {
            x.clear();
            due("letter(" + c + ")", x.letter(c), 1);
            due("word of " + c, x.word(1), c);
            due("at(" + c + ", 0)", x.at(c, 0), c);
        }
        for (int c : new int[] {-1, 26, 27, -26, 256, 65536, LOW, HIGH}) {
            due("letter(" + c + ")", x.letter(c), -1);
        }
        due("what is typed still", x.clear(), 1);
    }

    private static void theTypedIsShort() {
        says("THE TYPED is a row of at most 12 of them");
        Speller x = new Speller();
        for (int n = 1; n <= 12; n++) {
            due("letter " + n, x.letter(n), n);
        }
        due("a 13th", x.letter(13), -4);
        due("a 13th again", x.letter(0), -4);
        due("word(1)", x.word(1), 0);
        for (int i = 0; i < 12; i++) {
            due("at(0, " + i + ")", x.at(0, i), i + 1);
        }
        due("at(0, 12)", x.at(0, 12), -1);
        due("clear()", x.clear(), 12);
        due("room again", x.letter(0), 1);
    }

    /** 60 words, the beginnings of five rows of 12 letters, in 125 calls. */
    private static Speller full() {
        Speller x = new Speller();
        for (int chain = 0; chain < 5; chain++) {
            x.clear();
            for (int n = 0; n < 12; n++) {
                x.letter(n == 0 ? chain : 12);
                x.word(1 + chain);
            }
        }
        return x;
    }

    private static void wordsAreFew() {
        says("WORDS (60 at most)");
        Speller x = new Speller();
        int told = 0;
        for (int chain = 0; chain < 5; chain++) {
            x.clear();
            for (int n = 0; n < 12; n++) {
                x.letter(chain);
                due("word " + told, x.word(1), told);
                told++;
            }
        }
        due("a 61st", x.tell("zz", 1), -4);
        due("word 59", x.at(59, -2), 12);
        due("word 60", x.at(60, -2), -1);
        due("all are suggested", x.suggest(50), 60);
        due("the 61st is still typed", x.clear(), 2);
    }

    private static void wordsHaveLetters() {
        says("rows of 1 to 12 LETTERS");
        Speller x = new Speller();
        due("no letter", x.word(1), -2);
        due("one letter", x.tell("z", 1), 0);
        due("its length", x.at(0, -2), 1);
        due("twelve letters", x.tell(TWELVE, 1), 1);
        due("their length", x.at(1, -2), 12);
        due("the last of them", x.at(1, 11), 11);
        x.clear();
        due("no letter again", x.word(1), -2);
    }

    private static void wordsAreUnlike() {
        says("all unlike");
        Speller x = new Speller();
        due("abc", x.tell("abc", 1), 0);
        due("abc again", x.tell("abc", 1), -3);
        due("abc with another count", x.tell("abc", 2), -3);
        due("its beginning", x.tell("ab", 1), 1);
        due("what goes on from it", x.tell("abcc", 1), 2);
        due("unlike at the end", x.tell("abd", 1), 3);
        due("unlike at the front", x.tell("bbc", 1), 4);
        due("another row of the same", x.tell("acb", 1), 5);
        due("its beginning again", x.tell("ab", 1), -3);
        due("twelve", x.tell("aaaaaaaaaaaa", 1), 6);
        due("twelve, unlike at the end", x.tell("aaaaaaaaaaab", 1), 7);
        due("twelve again", x.tell("aaaaaaaaaaaa", 1), -3);
        due("the last one again", x.tell("aaaaaaaaaaab", 1), -3);
    }

    private static void countsAre() {
        says("each with a COUNT (1 to 1000)");
        Speller x = new Speller();
        x.type("a");
        for (int n : new int[] {0, -1, 1001, LOW, HIGH}) {
            due("word(" + n + ")", x.word(n), -2);
        }
        due("word(1)", x.word(1), 0);
        x.letter(0);
        due("word(1000)", x.word(1000), 1);
        due("the first one's", x.count(0, 1), 1);
        due("the second one's", x.count(1, 1), 1000);
    }

    private static void numbersAreAsTold() {
        says("they have numbers as they were told");
        Speller x = new Speller();
        due("c", x.tell("c", 1), 0);
        due("b", x.tell("b", 1), 1);
        due("refused", x.tell("c", 1), -3);
        due("a", x.tell("a", 1), 2);
        for (int word = 0; word < 3; word++) {
            due("letter of " + word, x.at(word, 0), 2 - word);
        }
    }

    private static void orderIs() {
        says("ORDER: by their LETTERS, what ends first being first");
        Speller x = new Speller();
        due("alone", x.tell("mm", 1) + x.at(0, -1), 0);
        x.tell("m", 1);
        x.tell("mma", 1);
        x.tell("ml", 1);
        x.tell("lzzzzzzzzzzz", 1);
        x.tell("n", 1);
        x.tell("mn", 1000);
        int[] order = {3, 1, 4, 2, 0, 6, 5};
        for (int word = 0; word < order.length; word++) {
            due("at(" + word + ", -1)", x.at(word, -1), order[word]);
        }
    }

    private static void thePricesAndEdits() {
        editPricesAre();
        whatPricesAreFirst();
        aPriceOfItsOwn();
        distanceIsTheLeast();
        eachLetterIsInOneEdit();
        neighboursChangePlaces();
        leavingBothIsFirst();
        theFirstOfLikeEdits();
    }

    private static void editPricesAre() {
        says("they have PRICES, 0 to 9");
        Speller x = new Speller();
        for (int kind = 0; kind < 4; kind++) {
            for (int v : new int[] {-1, 10, 50, LOW, HIGH}) {
                due("price(" + kind + ", " + v + ")", x.price(kind, v), -2);
            }
            x.price(kind, 9);
            due("price(" + kind + ", 9) was taken", x.price(kind, 0), 9);
            due("price(" + kind + ", 0) was taken", x.price(kind, 9), 0);
        }
        x.tell(TWELVE, 1);
        x.clear();
        due("twelve put in at 9", x.distance(0), 108);
        x.type("zzzzzzzzzzzz");
        due("twelve becoming others at 9", x.distance(0), 108);
        for (int kind = 0; kind < 4; kind++) {
            x.price(kind, 0);
            due("for nothing, kind " + kind, x.distance(0), kind < 1 ? 108 : 0);
        }
    }

    private static void whatPricesAreFirst() {
        says("first 2, 2, 3, 1; first 5; first 4");
        Speller x = new Speller();
        x.tell("ab", 1);
        x.type("b");
        due("put in", x.distance(0), 2);
        x.type("abc");
        due("left out", x.distance(0), 2);
        x.type("cb");
        due("becoming another", x.distance(0), 3);
        x.type("ba");
        due("changing places", x.distance(0), 1);
        x.type("abab");
        due("parted", x.parting(0), 5);
        x.tokens("ab", "ab");
        due("no pair", x.chosen(0, -1), 4);
        int[] first = {2, 2, 3, 1, 5, 4};
        for (int kind = 0; kind < 6; kind++) {
            due("price(" + kind + ", 0)", x.price(kind, 0), first[kind]);
        }
    }

    private static void aPriceOfItsOwn() {
        says("2 may have a PRICE of its own for a LETTER a and the b that it becomes");
        Speller x = new Speller();
        x.tell("z", 1);
        x.type("a");
        due("as kind 2", x.distance(0), 3);
        x.near(0, 25, 0);
        due("for nothing", x.distance(0), 0);
        x.price(2, 9);
        due("whatever kind 2 costs", x.distance(0), 0);
        x.near(0, 25, 9);
        due("out and in is cheaper than 9", x.distance(0), 4);
        x.price(0, 9);
        x.price(1, 9);
        x.price(2, 1);
        due("dearer than kind 2, and due all the same", x.distance(0), 9);
        x.type("b");
        due("another letter has none", x.distance(0), 1);
        due("the other way, z becomes a", x.tell("a", 1), 1);
        x.type("z");
        due("has none", x.distance(1), 1);
        x.type("a");
        x.near(0, 25, -1);
        due("no more", x.distance(0), 1);
    }

    private static void distanceIsTheLeast() {
        says("DISTANCE is the least sum of PRICES with which EDITS do that");
        Speller x = new Speller();
        x.tell("ab", 1);
        x.type("ab");
        due("no EDIT", x.distance(0), 0);
        x.clear();
        due("all put in", x.distance(0), 4);
        x.type("cd");
        due("3 and 3 are below 2, 2, 2 and 2", x.distance(0), 6);
        x.price(2, 5);
        due("2, 2, 2 and 2 are below 5 and 5", x.distance(0), 8);
        x.type("ba");
        x.price(3, 9);
        due("out and in are below changing places at 9", x.distance(0), 4);
        x.price(3, 3);
        due("changing places at 3", x.distance(0), 3);
        x.type(TWELVE);
        due("ten left out", x.distance(0), 20);
    }

    private static void eachLetterIsInOneEdit() {
        says("each LETTER of THE TYPED, each one of the word, being in at most one EDIT");
        Speller x = new Speller();
        x.tell("bca", 1);
        x.type("abc");
        due("a does not change places twice", x.distance(0), 4);
        x.tell("cb", 1);
        x.type("ba");
        x.near(0, 2, 0);
        due("a does not become c and change places", x.distance(1), 4);
        x.near(0, 3, 0);
        x.near(3, 4, 0);
        x.tell("e", 1);
        x.type("a");
        due("a does not become d and then e", x.distance(2), 3);
    }

    private static void neighboursChangePlaces() {
        says("two neighbours change places, which are then the same as those of the word");
        Speller x = new Speller();
        x.tell("bxa", 1);
        x.type("ab");
        due("nothing is put in between them", x.distance(0), 6);
        x.tell("ab", 1);
        x.type("bxa");
        due("nothing is left out between them", x.distance(1), 6);
        x.type("ba");
        due("the first two", x.distance(1), 1);
        x.tell("aba", 1);
        x.tell("abaab", 1);
        x.type("baaba");
        due("twice, with one between them", x.distance(3), 2);
        x.type("aab");
        due("the last two", x.distance(2), 1);
    }

    private static void edited(Speller x, int word, String typed, int... kindsAndPlaces) {
        x.type(typed);
        int n = kindsAndPlaces.length / 2;
        due("edit(" + word + ", -1) of " + typed, x.edit(word, -1), n);
        for (int k = 0; k < n; k++) {
            due("edit(" + word + ", " + k + ") of " + typed, x.edit(word, k), kindsAndPlaces[2 * k]);
            due("place(" + word + ", " + k + ") of " + typed, x.place(word, k), kindsAndPlaces[2 * k + 1]);
        }
    }

    private static void leavingBothIsFirst() {
        says("the last LETTERS are the same, and leaving both is as cheap as may be: no EDIT");
        Speller x = new Speller();
        x.tell("aa", 1);
        edited(x, 0, "aa");
        edited(x, 0, "aaa", 1, 0);
        edited(x, 0, "a", 0, 0);
        for (int kind = 0; kind < 4; kind++) {
            x.price(kind, 0);
        }
        edited(x, 0, "aa");
        edited(x, 0, "ba", 2, 0);
        Speller y = new Speller();
        y.tell("bab", 1);
        y.price(3, 0);
        y.price(0, 9);
        y.price(1, 1);
        y.price(2, 9);
        edited(y, 0, "abbb", 3, 0, 1, 2);
        edited(y, 0, "babb", 1, 0, 3, 1);
        Speller v = new Speller();
        v.tell("ba", 1);
        v.price(1, 9);
        v.price(0, 0);
        v.price(3, 9);
        edited(v, 0, "aa", 2, 0);
        v.near(0, 1, 9);
        v.price(1, 0);
        edited(v, 0, "aa", 0, 0, 1, 0);
    }

    private static void theFirstOfLikeEdits() {
        says("the first that is as cheap: becomes; change places; is left out; one is put in");
        Speller x = new Speller();
        x.tell("ab", 1);
        x.price(2, 4);
        edited(x, 0, "ac", 2, 1);
        x.price(2, 5);
        edited(x, 0, "ac", 0, 1, 1, 1);
        x.price(2, 2);
        x.price(3, 4);
        edited(x, 0, "ba", 2, 0, 2, 1);
        x.price(2, 3);
        edited(x, 0, "ba", 3, 0);
        x.price(3, 5);
        edited(x, 0, "ba", 0, 0, 1, 1);
        x.price(1, 3);
        x.price(0, 1);
        edited(x, 0, "ba", 0, 0, 1, 1);
        Speller y = new Speller();
        y.tell("a", 1);
        y.price(2, 9);
        edited(y, 0, "b", 0, 0, 1, 0);
        y.tell("aab", 1);
        edited(y, 1, "ba", 0, 0, 3, 0);
        Speller z = new Speller();
        z.tell("ba", 1);
        z.price(0, 0);
        z.price(1, 0);
        edited(z, 0, "ab", 0, 0, 1, 1);
        for (int kind = 2; kind < 4; kind++) {
            z.price(kind, 0);
        }
        edited(z, 0, "ab", 2, 0, 2, 1);
    }

    private static void theRanks() {
        limitsAre();
        notAboveTheLimit();
        suggestionsGoBy();
        endingsBegin();
        endingsGoBy();
    }

    private static void limitsAre() {
        says("a LIMIT (0 to 50)");
        Speller x = new Speller();
        x.tell("a", 1);
        x.tokens("a");
        x.type("a");
        for (int limit : new int[] {0, 50}) {
            due("suggest(" + limit + ")", x.suggest(limit), 1);
            due("suggestion(" + limit + ", 0)", x.suggestion(limit, 0), 0);
            due("endings(" + limit + ")", x.endings(limit), 1);
            due("ending(" + limit + ", 0)", x.ending(limit, 0), 0);
            due("chosen(" + limit + ", -1)", x.chosen(limit, -1), 0);
            due("chosen(" + limit + ", 0)", x.chosen(limit, 0), 0);
        }
        for (int limit : new int[] {-1, 51, LOW, HIGH}) {
            due("suggest(" + limit + ")", x.suggest(limit), -2);
            due("suggestion(" + limit + ", 0)", x.suggestion(limit, 0), -2);
            due("endings(" + limit + ")", x.endings(limit), -2);
            due("ending(" + limit + ", 0)", x.ending(limit, 0), -2);
            due("chosen(" + limit + ", -1)", x.chosen(limit, -1), -2);
            due("chosen(" + limit + ", 0)", x.chosen(limit, 0), -2);
        }
    }

    /** Words a ... a at 5 a letter more: distances 0, 5, .. 50, 55 from one a typed. */
    private static Speller steps() {
        Speller x = new Speller();
        x.price(0, 5);
        for (int n = 0; n < 12; n++) {
            x.letter(0);
            x.word(1);
        }
        return x;
    }

    private static void notAboveTheLimit() {
        says("all WORDS whose DISTANCE is not above it");
        Speller x = steps();
        x.type("a");
        int[] limits = {0, 4, 5, 6, 49, 50};
        int[] many = {1, 1, 2, 2, 10, 11};
        for (int i = 0; i < limits.length; i++) {
            due("suggest(" + limits[i] + ")", x.suggest(limits[i]), many[i]);
            due("the last one", x.suggestion(limits[i], many[i] - 1), many[i] - 1);
            due("behind it", x.suggestion(limits[i], many[i]), -1);
        }
        due("the longest word is 55 away", x.distance(11), 55);
        x.clear();
        due("none is so near to nothing", x.suggest(4), 0);
        due("nothing typed, one word", x.suggest(5), 1);
        says("a beginning whose DISTANCE from THE TYPED is not above it");
        x.price(1, 5);
        x.price(2, 9);
        x.type("bbbbbbbbbb");
        due("begins(0) by ten left out", x.begins(0), 50);
        due("endings(50)", x.endings(50), 12);
        due("endings(49)", x.endings(49), 0);
        x.letter(1);
        due("begins(0) by eleven left out", x.begins(0), 55);
        due("endings(50)", x.endings(50), 0);
        says("a row of WORDS, one for each TOKEN, of DISTANCE not above it");
        x.tell("zzzzzzzzzzzz", 1);
        x.tokens("bbbbbbbbbb");
        due("chosen(50, -1): nine left out, one becoming another", x.chosen(50, -1), -3);
        x.price(2, 5);
        due("chosen(50, -1)", x.chosen(50, -1), 50);
        due("chosen(49, -1)", x.chosen(49, -1), -3);
        due("chosen(49, 0)", x.chosen(49, 0), -3);
    }

    private static void suggested(Speller x, int limit, int... row) {
        due("suggest(" + limit + ")", x.suggest(limit), row.length);
        for (int i = 0; i < row.length; i++) {
            due("suggestion(" + limit + ", " + i + ")", x.suggestion(limit, i), row[i]);
        }
        due("behind the last", x.suggestion(limit, row.length), -1);
    }

    private static void suggestionsGoBy() {
        says("by DISTANCE, then by the greater COUNT, then by ORDER");
        Speller x = new Speller();
        x.tell("ad", 2);
        x.tell("ac", 2);
        x.tell("ba", 1000);
        x.tell("ab", 1);
        x.tell("abc", 1);
        x.type("ab");
        suggested(x, 0, 3);
        suggested(x, 1, 3, 2);
        suggested(x, 2, 3, 2, 4);
        suggested(x, 3, 3, 2, 4, 1, 0);
        x.count(0, 3);
        suggested(x, 50, 3, 2, 4, 0, 1);
        x.count(1, 3);
        suggested(x, 50, 3, 2, 4, 1, 0);
    }

    private static void ended(Speller x, int limit, int... row) {
        due("endings(" + limit + ")", x.endings(limit), row.length);
        for (int i = 0; i < row.length; i++) {
            due("ending(" + limit + ", " + i + ")", x.ending(limit, i), row[i]);
        }
        due("behind the last", x.ending(limit, row.length), -1);
    }

    private static void endingsBegin() {
        says("a beginning (perhaps no LETTER, perhaps all)");
        Speller x = new Speller();
        x.tell("cd", 1);
        x.tell("ab", 1);
        x.clear();
        due("no LETTER: begins(0)", x.begins(0), 0);
        ended(x, 0, 1, 0);
        x.type("z");
        due("no LETTER, the one typed left out", x.begins(0), 2);
        ended(x, 1);
        ended(x, 2, 1, 0);
        x.type("cd");
        due("all: begins(0)", x.begins(0), 0);
        ended(x, 0, 0);
        x.type("cdz");
        due("all, one left out", x.begins(0), 2);
        ended(x, 2, 0);
        x.price(1, 9);
        x.price(2, 0);
        x.type("zz");
        due("all, each becoming another", x.begins(0), 0);
    }

    private static void endingsGoBy() {
        says("by the least of these, then likewise");
        Speller x = new Speller();
        x.tell("abz", 2);
        x.tell("abc", 2);
        x.tell("bacc", 1000);
        x.tell("ab", 1);
        x.tell("xxx", 1);
        x.type("ab");
        ended(x, 0, 1, 0, 3);
        ended(x, 1, 1, 0, 3, 2);
        ended(x, 3, 1, 0, 3, 2);
        ended(x, 4, 1, 0, 3, 2, 4);
        x.count(3, 3);
        ended(x, 0, 3, 1, 0);
    }

    private static void parted(Speller x, String typed, int price, int cut, int left, int right) {
        x.type(typed);
        due("parting(0) of " + typed, x.parting(0), price);
        due("parting(1) of " + typed, x.parting(1), cut);
        due("parting(2) of " + typed, x.parting(2), left);
        due("parting(3) of " + typed, x.parting(3), right);
    }

    private static void thePartings() {
        aLetterOnEachSide();
        partingPriceIs();
        theBestParting();
    }

    private static void aLetterOnEachSide() {
        says("THE TYPED is parted into two, a LETTER at least on each side");
        Speller x = new Speller();
        x.tell("ab", 1);
        parted(x, "", -3, -3, -3, -3);
        parted(x, "a", -3, -3, -3, -3);
        parted(x, "ab", 9, 1, 0, 0);
        x.tell("b", 1);
        parted(x, "bb", 5, 1, 1, 1);
        x.price(0, 0);
        parted(x, "ab", 5, 1, 0, 0);
        Speller y = new Speller();
        y.tell("a", 1);
        y.tell("bcdefghijkl", 1);
        y.tell("abcdefghijk", 1);
        y.tell("l", 1);
        parted(y, TWELVE, 5, 1, 0, 1);
        parted(y, "abcdefghijkl", 5, 1, 0, 1);
        y.near(0, 12, 9);
        parted(y, "abcdefghijll", 8, 1, 0, 1);
        Speller z = new Speller();
        z.tell("abcdefghijk", 1);
        z.tell("l", 1);
        parted(z, TWELVE, 5, 11, 0, 1);
        Speller v = new Speller();
        v.tell("ab", 1);
        v.tell("c", 1);
        v.price(0, 1);
        // With no LETTER on a side it would be 6: c put in, ab as it is.
        parted(v, "ab", 7, 1, 0, 0);
    }

    private static void partingPriceIs() {
        says("PRICE 4 (0 to 50, first 5)");
        Speller x = new Speller();
        x.tell("a", 1);
        parted(x, "aa", 5, 1, 0, 0);
        due("price(4, 51)", x.price(4, 51), -2);
        due("price(4, -1)", x.price(4, -1), -2);
        due("price(4, 50)", x.price(4, 50), 5);
        parted(x, "aa", 50, 1, 0, 0);
        due("price(4, 0)", x.price(4, 0), 50);
        parted(x, "aa", 0, 1, 0, 0);
        due("price(4, 10)", x.price(4, 10), 0);
        parted(x, "ab", 13, 1, 0, 0);
    }

    private static void theBestParting() {
        says("the best one has the least price");
        Speller x = new Speller();
        x.tell("a", 1);
        x.tell("aab", 1);
        parted(x, "aaba", 5, 3, 1, 0);
        says("of like ones the earliest parting");
        x.tell("aba", 1);
        parted(x, "aaba", 5, 1, 0, 2);
        says("then the left word first in ORDER");
        Speller y = new Speller();
        y.tell("c", 1);
        y.tell("b", 1000);
        y.tell("d", 1);
        parted(y, "xd", 8, 1, 1, 2);
        y.tell("a", 1);
        parted(y, "xd", 8, 1, 3, 2);
        says("then the right one");
        parted(y, "cx", 8, 1, 0, 3);
        parted(y, "xx", 11, 1, 3, 3);
    }

    private static void theLines() {
        aLineIsShort();
        tokensHaveLetters();
        pairsAreBehind();
        noPairPriceIs();
        likeRows();
    }

    private static void aLineIsShort() {
        says("A LINE is a row of at most 6 TOKENS");
        Speller x = new Speller();
        x.tell("a", 1);
        x.price(5, 0);
        for (int n = 1; n <= 6; n++) {
            x.type("ab".substring(0, 1 + n / 6));
            due("token " + n, x.token(), n);
        }
        x.type("b");
        due("a 7th", x.token(), -4);
        due("it is still typed", x.clear(), 1);
        due("chosen(50, -1)", x.chosen(50, -1), 2);
        due("chosen(50, 5)", x.chosen(50, 5), 0);
        due("chosen(50, 6)", x.chosen(50, 6), -1);
        due("line()", x.line(), 6);
        x.type("a");
        due("room again", x.token(), 1);
        due("chosen(50, -1) then", x.chosen(50, -1), 0);
    }

    private static void tokensHaveLetters() {
        says("each a row of 1 to 12 LETTERS");
        Speller x = new Speller();
        due("no letter", x.token(), -2);
        x.type("z");
        due("one letter", x.token(), 1);
        x.type(TWELVE);
        due("twelve letters", x.token(), 2);
        due("no letter again", x.token(), -2);
        x.tell("z", 1);
        x.tell(TWELVE, 1);
        x.pair(0, 1, true);
        due("chosen(0, -1)", x.chosen(0, -1), 0);
        due("chosen(0, 0)", x.chosen(0, 0), 0);
        due("chosen(0, 1)", x.chosen(0, 1), 1);
    }

    private static void pairsAreBehind() {
        says("PAIRS of WORDS, one behind the other, are known or not");
        Speller x = new Speller();
        x.tell("a", 1);
        x.tell("b", 1);
        x.tokens("a", "b");
        due("not known", x.chosen(0, -1), 4);
        x.pair(1, 0, true);
        due("a behind b is known", x.chosen(0, -1), 4);
        x.pair(0, 1, true);
        due("b behind a is known", x.chosen(0, -1), 0);
        x.pair(0, 1, false);
        due("no more", x.chosen(0, -1), 4);
        x.tokens("b", "b");
        due("the same behind itself, not known", x.chosen(0, -1), 4);
        x.pair(1, 1, true);
        due("the same behind itself, known", x.chosen(0, -1), 0);
        x.tokens("b", "a", "b");
        due("only neighbours count", x.chosen(0, -1), 4);
    }

    private static void noPairPriceIs() {
        says("PRICE 5 (0 to 50, first 4) for each two neighbours that are no PAIR known");
        Speller x = new Speller();
        x.tell("a", 1);
        x.tokens("a");
        due("one TOKEN has no neighbour", x.chosen(0, -1), 0);
        x.tokens("a", "a", "a", "a", "a", "a");
        due("five times 4", x.chosen(0, -1), 20);
        due("price(5, 51)", x.price(5, 51), -2);
        due("price(5, -1)", x.price(5, -1), -2);
        due("price(5, 50)", x.price(5, 50), 4);
        due("five times 50", x.chosen(0, -1), 250);
        due("price(5, 0)", x.price(5, 0), 50);
        due("five times 0", x.chosen(0, -1), 0);
        x.price(5, 50);
        x.pair(0, 0, true);
        due("all are known", x.chosen(0, -1), 0);
        says("all DISTANCES and PRICE 5 together are least");
        Speller y = new Speller();
        y.tell("a", 1);
        y.tell("b", 1);
        y.tokens("a", "a");
        y.pair(0, 1, true);
        due("3 is below 4", y.chosen(3, -1), 3);
        due("b is taken", y.chosen(3, 1), 1);
        due("b is not within 2", y.chosen(2, -1), 4);
        due("a is taken", y.chosen(2, 1), 0);
        y.price(5, 2);
        due("2 is below 3", y.chosen(3, -1), 2);
        due("a is taken then", y.chosen(3, 1), 0);
    }

    private static void likeRows() {
        says("of like rows the one whose WORD is first in ORDER where two differ first");
        Speller x = new Speller();
        x.tell("c", 1);
        x.tell("b", 1000);
        x.tokens("x", "y");
        due("chosen(3, 0)", x.chosen(3, 0), 1);
        due("chosen(3, 1)", x.chosen(3, 1), 1);
        x.pair(0, 1, true);
        x.pair(1, 0, true);
        due("the first decides, chosen(3, 0)", x.chosen(3, 0), 1);
        due("the first decides, chosen(3, 1)", x.chosen(3, 1), 0);
        x.price(5, 0);
        x.tell("a", 1);
        due("a new word ahead of them, chosen(3, 0)", x.chosen(3, 0), 2);
        due("a new word ahead of them, chosen(3, 1)", x.chosen(3, 1), 2);
        Speller y = new Speller();
        y.tell("b", 1);
        y.tell("a", 1);
        y.tokens("b", "x", "x");
        y.price(5, 1);
        y.pair(0, 0, true);
        y.pair(1, 1, true);
        due("b b b costs as b a a with a PAIR less", y.chosen(3, -1), 6);
        due("chosen(3, 1)", y.chosen(3, 1), 0);
        y.pair(0, 1, true);
        due("b a a costs as much now", y.chosen(3, -1), 6);
        due("chosen(3, 1) now", y.chosen(3, 1), 1);
        due("chosen(3, 2) now", y.chosen(3, 2), 1);
    }

    // ---- Promises 1 to 8

    private static void typedAndWords() {
        nothingTyped();
        letterPromise();
        clearPromise();
        wordPromise();
        countPromise();
        atPromise();
        pricePromise();
        nearPromise();
    }

    private static void nothingTyped() {
        says("Nothing typed, no WORDS");
        Speller x = new Speller();
        due("word(1)", x.word(1), -2);
        due("token()", x.token(), -2);
        due("clear()", x.clear(), 0);
        due("line()", x.line(), 0);
        due("count(0, 1)", x.count(0, 1), -1);
        due("at(0, -1)", x.at(0, -1), -1);
        due("at(0, -2)", x.at(0, -2), -1);
        due("at(0, 0)", x.at(0, 0), -1);
        due("distance(0)", x.distance(0), -1);
        due("begins(0)", x.begins(0), -1);
        due("edit(0, -1)", x.edit(0, -1), -1);
        due("place(0, 0)", x.place(0, 0), -1);
        due("suggest(50)", x.suggest(50), 0);
        due("suggestion(50, 0)", x.suggestion(50, 0), -1);
        due("endings(50)", x.endings(50), 0);
        due("ending(50, 0)", x.ending(50, 0), -1);
        due("parting(0)", x.parting(0), -3);
        due("pair(0, 0, true)", x.pair(0, 0, true), -1);
        due("chosen(50, -1)", x.chosen(50, -1), -3);
        due("chosen(50, 0)", x.chosen(50, 0), -1);
        due("share(0)", x.share(0), -1);
        due("letter(0)", x.letter(0), 1);
        due("word(1) then", x.word(1), 0);
        due("the first WORD is the first in ORDER", x.at(0, -1), 0);
    }

    private static void letterPromise() {
        says("A LETTER more behind THE TYPED: how many. -1; -4.");
        Speller x = new Speller();
        due("the first", x.letter(25), 1);
        due("none", x.letter(26), -1);
        due("the second", x.letter(0), 2);
        x.word(1);
        due("the first stands first", x.at(0, 0), 25);
        due("the second stands behind it", x.at(0, 1), 0);
        x.type(TWELVE);
        due("no room", x.letter(0), -4);
        due("no such letter is told ahead of no room", x.letter(-1), -1);
    }

    private static void clearPromise() {
        says("THE TYPED is empty: how many it had");
        Speller x = new Speller();
        due("none", x.clear(), 0);
        x.letter(0);
        due("one", x.clear(), 1);
        due("none again", x.clear(), 0);
        x.type(TWELVE);
        due("twelve", x.clear(), 12);
        due("nothing is typed", x.word(1), -2);
        due("the next is the first", x.letter(7), 1);
        x.word(1);
        due("and stands first", x.at(0, 0), 7);
        due("alone", x.at(0, -2), 1);
        due("clear() leaves the WORDS", x.clear() * 0 + x.suggest(50), 1);
    }

    private static void wordPromise() {
        says("THE TYPED becomes a WORD, and stays");
        Speller x = new Speller();
        x.type("ab");
        due("word(1)", x.word(1), 0);
        due("it stays", x.letter(2), 3);
        due("word(1) again", x.word(1), 1);
        due("the first WORD has not grown", x.at(0, -2), 2);
        x.type("zz");
        due("nor changed, letter 0", x.at(0, 0), 0);
        due("nor changed, letter 1", x.at(0, 1), 1);
        says("-2 the COUNT, or nothing is typed");
        due("word(0)", x.word(0), -2);
        due("word(1001)", x.word(1001), -2);
        x.clear();
        due("nothing is typed", x.word(1), -2);
        due("both", x.word(0), -2);
        says("-3 it is one");
        due("it is one", x.tell("ab", 9), -3);
        due("its COUNT is the old one", x.count(0, 1), 1);
        due("a COUNT out of bounds is told first", x.word(0), -2);
        says("word: -4");
        Speller y = full();
        due("no room", y.tell("z", 1), -4);
        due("a COUNT out of bounds is told ahead of no room", y.word(1001), -2);
        due("it is one is told ahead of no room", y.tell("am", 1), -3);
        due("all three: the COUNT", y.word(0), -2);
        y.clear();
        due("nothing typed is told ahead of no room", y.word(1), -2);
    }

    private static void countPromise() {
        says("A WORD's COUNT becomes n: what it was. -1; -2.");
        Speller x = new Speller();
        x.tell("a", 1);
        x.tell("b", 1000);
        due("count(0, 1000)", x.count(0, 1000), 1);
        due("count(1, 1)", x.count(1, 1), 1000);
        due("count(0, 1000) again", x.count(0, 1000), 1000);
        for (int word : new int[] {-1, 2, LOW, HIGH}) {
            due("count(" + word + ", 1)", x.count(word, 1), -1);
            due("no such word is first, count(" + word + ", 0)", x.count(word, 0), -1);
        }
        for (int n : new int[] {0, -1, 1001, LOW, HIGH}) {
            due("count(0, " + n + ")", x.count(0, n), -2);
        }
        due("refusals change nothing", x.count(0, 1), 1000);
    }

    private static void atPromise() {
        says("LETTER i of a WORD; its number in ORDER, from 0 (i = -1); how many it has (-2)");
        Speller x = new Speller();
        x.tell("ba", 1);
        due("at(0, -1)", x.at(0, -1), 0);
        due("at(0, -2)", x.at(0, -2), 2);
        due("at(0, 0)", x.at(0, 0), 1);
        due("at(0, 1)", x.at(0, 1), 0);
        x.tell(TWELVE, 1);
        due("at(0, -1), one more ahead of it", x.at(0, -1), 1);
        due("at(1, -1)", x.at(1, -1), 0);
        due("at(1, -2)", x.at(1, -2), 12);
        due("at(1, 11)", x.at(1, 11), 11);
        says("-1: also a place that it has not");
        for (int i : new int[] {2, 3, 11, 12, -3, LOW, HIGH}) {
            due("at(0, " + i + ")", x.at(0, i), -1);
        }
        due("at(1, 12)", x.at(1, 12), -1);
        for (int word : new int[] {-1, 2, 60, LOW, HIGH}) {
            due("at(" + word + ", 0)", x.at(word, 0), -1);
            due("at(" + word + ", -1)", x.at(word, -1), -1);
            due("at(" + word + ", -2)", x.at(word, -2), -1);
        }
        says("its number in ORDER, 60 WORDS");
        Speller y = full();
        for (int word = 0; word < 60; word++) {
            due("at(" + word + ", -1)", y.at(word, -1), word);
        }
    }

    private static void pricePromise() {
        says("The PRICE of a kind (0 to 5) becomes v: what it was. -2.");
        Speller x = new Speller();
        for (int kind : new int[] {-1, 6, LOW, HIGH}) {
            due("price(" + kind + ", 1)", x.price(kind, 1), -2);
            due("price(" + kind + ", -1)", x.price(kind, -1), -2);
        }
        int[] first = {2, 2, 3, 1, 5, 4};
        int[] most = {9, 9, 9, 9, 50, 50};
        for (int kind = 0; kind <= 5; kind++) {
            due("price(" + kind + ", one too many)", x.price(kind, most[kind] + 1), -2);
            due("price(" + kind + ", -1)", x.price(kind, -1), -2);
            due("price(" + kind + ", " + LOW + ")", x.price(kind, LOW), -2);
            due("price(" + kind + ", " + HIGH + ")", x.price(kind, HIGH), -2);
            due("price(" + kind + ", the most)", x.price(kind, most[kind]), first[kind]);
            due("price(" + kind + ", the most) again", x.price(kind, most[kind]), most[kind]);
        }
        for (int kind = 0; kind <= 5; kind++) {
            due("price(" + kind + ", 0)", x.price(kind, 0), most[kind]);
        }
    }

    private static void nearPromise() {
        says("LETTER a becomes b at a PRICE of its own, 0 to 9: what its own one was, -3 none");
        Speller x = new Speller();
        due("near(0, 25, 0)", x.near(0, 25, 0), -3);
        due("near(0, 25, 9)", x.near(0, 25, 9), 0);
        due("near(0, 25, 9) again", x.near(0, 25, 9), 9);
        due("near(25, 0, 1), the other way", x.near(25, 0, 1), -3);
        says("(-1: no more)");
        due("near(0, 25, -1)", x.near(0, 25, -1), 9);
        due("near(0, 25, -1) again", x.near(0, 25, -1), -3);
        due("near(0, 25, 3) after it", x.near(0, 25, 3), -3);
        due("near(25, 0, -1), the other way", x.near(25, 0, -1), 1);
        says("near: -1 (a is b, too)");
        for (int c = 0; c <= 25; c += 5) {
            due("near(" + c + ", " + c + ", 1)", x.near(c, c, 1), -1);
            due("near(" + c + ", " + c + ", -1)", x.near(c, c, -1), -1);
        }
        for (int c : new int[] {-1, 26, LOW, HIGH}) {
            due("near(" + c + ", 0, 1)", x.near(c, 0, 1), -1);
            due("near(0, " + c + ", 1)", x.near(0, c, 1), -1);
            due("near(" + c + ", " + c + ", 1)", x.near(c, c, 1), -1);
            due("no such letter is first, near(0, " + c + ", 10)", x.near(0, c, 10), -1);
        }
        due("near(-1, 27, 1) is no place of a table", x.near(-1, 27, 1), -1);
        due("near(1, -25, 1) is no place of a table", x.near(1, -25, 1), -1);
        due("a is b is first", x.near(3, 3, 10), -1);
        says("near: -2");
        for (int v : new int[] {-2, 10, LOW, HIGH}) {
            due("near(0, 1, " + v + ")", x.near(0, 1, v), -2);
        }
        due("refusals change nothing", x.near(0, 1, 0), -3);
    }

    // ---- Promises 9 to 12

    private static void edits() {
        distancePromise();
        beginsPromise();
        editPromise();
        placePromise();
    }

    private static void distancePromise() {
        says("DISTANCE of THE TYPED to a WORD. -1.");
        Speller x = new Speller();
        x.tell(TWELVE, 1);
        x.tell("a", 1);
        due("to itself", x.distance(1), 0);
        due("eleven put in", x.distance(0), 22);
        x.clear();
        due("nothing typed, one put in", x.distance(1), 2);
        due("nothing typed, twelve put in", x.distance(0), 24);
        x.type(TWELVE);
        due("twelve typed, the same", x.distance(0), 0);
        due("eleven left out", x.distance(1), 22);
        for (int word : new int[] {-1, 2, 60, LOW, HIGH}) {
            due("distance(" + word + ")", x.distance(word), -1);
        }
    }

    private static void beginsPromise() {
        says("The least DISTANCE of THE TYPED to a beginning of a WORD. -1.");
        Speller x = new Speller();
        x.tell("abc", 1);
        x.clear();
        due("nothing typed", x.begins(0), 0);
        x.type("ab");
        due("a beginning", x.begins(0), 0);
        x.type("abc");
        due("all", x.begins(0), 0);
        x.type("b");
        due("b: put in, or left out", x.begins(0), 2);
        x.type("ba");
        due("ba", x.begins(0), 1);
        x.type("acb");
        due("acb", x.begins(0), 1);
        x.type("zzzzzzzzzzzz");
        due("all twelve left out", x.begins(0), 24);
        for (int word : new int[] {-1, 1, 60, LOW, HIGH}) {
            due("begins(" + word + ")", x.begins(word), -1);
        }
    }

    private static void editPromise() {
        says("How many EDITS there are for a WORD (k = -1)");
        Speller x = new Speller();
        x.tell(TWELVE, 1);
        due("none", x.edit(0, -1), 0);
        x.clear();
        due("twelve put in", x.edit(0, -1), 12);
        x.type("zzzzzzzzzzzz");
        due("twelve becoming others", x.edit(0, -1), 12);
        x.price(2, 9);
        due("twelve left out, twelve put in", x.edit(0, -1), 24);
        says("of the k-th one of THE EDITS, from the front, its kind, 0 to 3");
        due("edit(0, 0)", x.edit(0, 0), 0);
        due("edit(0, 11)", x.edit(0, 11), 0);
        due("edit(0, 12)", x.edit(0, 12), 1);
        due("edit(0, 23)", x.edit(0, 23), 1);
        due("edit(0, 24)", x.edit(0, 24), -1);
        says("edit: -1");
        x.type("a");
        x.tell("a", 1);
        due("no EDITS, edit(1, 0)", x.edit(1, 0), -1);
        for (int k : new int[] {-2, 11, 24, LOW, HIGH}) {
            due("edit(0, " + k + ")", x.edit(0, k), -1);
        }
        for (int word : new int[] {-1, 2, 60, LOW, HIGH}) {
            due("edit(" + word + ", -1)", x.edit(word, -1), -1);
            due("edit(" + word + ", 0)", x.edit(word, 0), -1);
        }
    }

    private static void placePromise() {
        says("The place of THE TYPED (from 0): of the LETTER that goes or becomes another");
        Speller x = new Speller();
        x.tell("abc", 1);
        edited(x, 0, "zabc", 1, 0);
        edited(x, 0, "abcz", 1, 3);
        edited(x, 0, "zbc", 2, 0);
        edited(x, 0, "abz", 2, 2);
        says("of the first of two");
        edited(x, 0, "bac", 3, 0);
        edited(x, 0, "acb", 3, 1);
        says("when one is put in, how many LETTERS of THE TYPED stand ahead of it");
        edited(x, 0, "bc", 0, 0);
        edited(x, 0, "ab", 0, 2);
        edited(x, 0, "", 0, 0, 0, 0, 0, 0);
        x.tell("zzzzzzzzzzzz", 1);
        edited(x, 1, "zzzzzzzzzzz", 0, 0);
        x.price(2, 9);
        edited(x, 0, "zzz", 0, 0, 0, 0, 0, 0, 1, 0, 1, 1, 1, 2);
        says("place: -1");
        x.type("ab");
        for (int k : new int[] {-1, -2, 1, 24, LOW, HIGH}) {
            due("place(0, " + k + ")", x.place(0, k), -1);
        }
        for (int word : new int[] {-1, 2, 60, LOW, HIGH}) {
            due("place(" + word + ", 0)", x.place(word, 0), -1);
        }
        x.type("abc");
        due("no EDITS, place(0, 0)", x.place(0, 0), -1);
    }

    // ---- Promises 13 to 17

    private static void suggestions() {
        suggestPromises();
        endingPromises();
        partingPromise();
    }

    private static void suggestPromises() {
        says("How many SUGGESTIONS there are for a LIMIT. -2.");
        Speller x = new Speller();
        due("no WORDS, suggest(0)", x.suggest(0), 0);
        due("no WORDS, suggest(51)", x.suggest(51), -2);
        x.tell("b", 1);
        x.tell("a", 1);
        due("suggest(2)", x.suggest(2), 1);
        due("suggest(3)", x.suggest(3), 2);
        due("suggest(-1)", x.suggest(-1), -2);
        says("SUGGESTION i for a LIMIT. -1 there are not so many");
        due("suggestion(2, 0)", x.suggestion(2, 0), 1);
        due("suggestion(2, 1)", x.suggestion(2, 1), -1);
        due("suggestion(3, 1)", x.suggestion(3, 1), 0);
        for (int i : new int[] {2, 60, -1, LOW, HIGH}) {
            due("suggestion(3, " + i + ")", x.suggestion(3, i), -1);
        }
        says("suggestion: -2 (first) the LIMIT");
        for (int limit : new int[] {-1, 51, LOW, HIGH}) {
            due("suggestion(" + limit + ", 0)", x.suggestion(limit, 0), -2);
            due("suggestion(" + limit + ", 2)", x.suggestion(limit, 2), -2);
            due("suggestion(" + limit + ", -1)", x.suggestion(limit, -1), -2);
        }
        says("SUGGESTIONS, 60 WORDS");
        Speller y = full();
        y.clear();
        due("suggest(50)", y.suggest(50), 60);
        due("suggestion(50, 0), the greatest COUNT of one letter", y.suggestion(50, 0), 48);
        due("suggestion(50, 59), the least COUNT of twelve", y.suggestion(50, 59), 11);
        due("suggestion(50, 60)", y.suggestion(50, 60), -1);
    }

    private static void endingPromises() {
        says("How many ENDINGS there are for a LIMIT. -2.");
        Speller x = new Speller();
        due("no WORDS, endings(0)", x.endings(0), 0);
        due("no WORDS, endings(51)", x.endings(51), -2);
        x.tell("bc", 1);
        x.tell("ac", 1);
        x.type("a");
        due("endings(0)", x.endings(0), 1);
        due("endings(1)", x.endings(1), 1);
        due("endings(2)", x.endings(2), 2);
        due("endings(-1)", x.endings(-1), -2);
        says("ENDING i. As suggestion(): -1 there are not so many");
        due("ending(1, 0)", x.ending(1, 0), 1);
        due("ending(1, 1)", x.ending(1, 1), -1);
        due("ending(2, 1)", x.ending(2, 1), 0);
        for (int i : new int[] {2, 60, -1, LOW, HIGH}) {
            due("ending(2, " + i + ")", x.ending(2, i), -1);
        }
        says("ENDING i. As suggestion(): -2 (first) the LIMIT");
        for (int limit : new int[] {-1, 51, LOW, HIGH}) {
            due("ending(" + limit + ", 0)", x.ending(limit, 0), -2);
            due("ending(" + limit + ", 2)", x.ending(limit, 2), -2);
            due("ending(" + limit + ", -1)", x.ending(limit, -1), -2);
        }
        says("ENDINGS, 60 WORDS");
        Speller y = full();
        y.clear();
        due("endings(0)", y.endings(0), 60);
        due("ending(0, 0), the greatest COUNT", y.ending(0, 0), 48);
        due("ending(0, 59), the least COUNT", y.ending(0, 59), 11);
        due("ending(0, 60)", y.ending(0, 60), -1);
    }

    private static void partingPromise() {
        says("what = 0 its price, 1 how many LETTERS are on the left, 2 the left WORD, 3 the right one");
        Speller x = new Speller();
        x.tell("d", 1);
        x.tell("abc", 1);
        parted(x, "abcd", 5, 3, 1, 0);
        parted(x, "dabc", 5, 1, 0, 1);
        says("parting: -2 what");
        for (int what : new int[] {-1, 4, LOW, HIGH}) {
            due("parting(" + what + ")", x.parting(what), -2);
        }
        says("-3 there is none (no WORDS, fewer than two LETTERS)");
        parted(x, "d", -3, -3, -3, -3);
        parted(x, "", -3, -3, -3, -3);
        Speller y = new Speller();
        parted(y, "", -3, -3, -3, -3);
        parted(y, "ab", -3, -3, -3, -3);
        parted(y, TWELVE, -3, -3, -3, -3);
        due("parting(4), what is told first", y.parting(4), -2);
        due("parting(-1), what is told first", y.parting(-1), -2);
        says("The best PARTING of the longest that may be typed, at the highest PRICES");
        for (int kind = 0; kind < 6; kind++) {
            y.price(kind, kind < 4 ? 9 : 50);
        }
        y.tell("z", 1);
        parted(y, TWELVE, 158, 1, 0, 0);
    }

    // ---- Promises 18 to 22

    private static void lines() {
        tokenPromise();
        linePromise();
        pairPromise();
        chosenPromise();
        sharePromise();
    }

    private static void tokenPromise() {
        says("THE TYPED becomes a TOKEN more of THE LINE, and is empty then: how many");
        Speller x = new Speller();
        x.type("ab");
        due("the first", x.token(), 1);
        due("THE TYPED is empty then", x.clear(), 0);
        says("token: -2 nothing is typed");
        due("nothing is typed", x.token(), -2);
        x.tell("ab", 1);
        due("a word stays typed, and becomes the second", x.token(), 2);
        due("nothing is typed now", x.token(), -2);
        says("token: -4");
        for (int n = 3; n <= 6; n++) {
            x.type(TWELVE);
            due("token " + n, x.token(), n);
        }
        due("nothing typed is told ahead of no room", x.token(), -2);
        x.type("ab");
        due("no room", x.token(), -4);
        due("what was refused is still typed", x.clear(), 2);
        due("the LINE has 6", x.line(), 6);
    }

    private static void linePromise() {
        says("THE LINE is empty: how many TOKENS it had");
        Speller x = new Speller();
        due("none", x.line(), 0);
        x.type("a");
        x.token();
        due("one", x.line(), 1);
        due("none again", x.line(), 0);
        due("no TOKEN 0", x.chosen(50, 0), -1);
        x.tokens("a", "a", "a", "a", "a", "a");
        x.type("b");
        due("six", x.line(), 6);
        due("THE TYPED stays", x.word(1), 0);
        due("no CHOSEN of an empty LINE", x.chosen(50, -1), -3);
        due("what was in it is gone, token()", x.token(), 1);
        due("what was in it is gone, chosen(0, -1)", x.chosen(0, -1), 0);
        due("what was in it is gone, chosen(0, 1)", x.chosen(0, 1), -1);
    }

    private static void pairPromise() {
        says("a word behind another one (perhaps the same), is known (on) or not: whether that is new");
        Speller x = new Speller();
        x.tell("a", 1);
        x.tell("b", 1);
        due("pair(0, 0, false), not known at first", x.pair(0, 0, false), 0);
        due("pair(0, 0, true)", x.pair(0, 0, true), 1);
        due("pair(0, 0, true) again", x.pair(0, 0, true), 0);
        due("pair(0, 1, true)", x.pair(0, 1, true), 1);
        due("pair(1, 0, false), the other way", x.pair(1, 0, false), 0);
        due("pair(1, 0, true), the other way", x.pair(1, 0, true), 1);
        due("pair(0, 1, false)", x.pair(0, 1, false), 1);
        due("pair(0, 1, false) again", x.pair(0, 1, false), 0);
        due("pair(1, 1, true)", x.pair(1, 1, true), 1);
        due("pair(0, 0, false)", x.pair(0, 0, false), 1);
        says("pair: -1");
        for (int word : new int[] {-1, 2, 59, 60, -60, LOW, HIGH}) {
            due("pair(" + word + ", 0, true)", x.pair(word, 0, true), -1);
            due("pair(0, " + word + ", true)", x.pair(0, word, true), -1);
            due("pair(" + word + ", " + word + ", false)", x.pair(word, word, false), -1);
        }
        due("pair(-1, 61, true) is no place of a table", x.pair(-1, 61, true), -1);
        due("pair(1, -59, true) is no place of a table", x.pair(1, -59, true), -1);
        x.tell("c", 1);
        due("a WORD told later is in no PAIR", x.pair(2, 0, false) + x.pair(0, 2, false), 0);
        says("PAIRS, 60 WORDS");
        Speller y = full();
        for (int word = 0; word < 60; word++) {
            due("pair(59, " + word + ", true)", y.pair(59, word, true), 1);
            due("pair(" + word + ", 0, false)", y.pair(word, 0, false), word == 59 ? 1 : 0);
        }
        due("pair(60, 0, true)", y.pair(60, 0, true), -1);
    }

    private static void chosenPromise() {
        says("What CHOSEN costs (k = -1), its WORD for TOKEN k (from 0), for a LIMIT");
        Speller x = new Speller();
        x.tell("b", 1);
        x.tell("a", 1);
        x.tokens("a", "b", "ab");
        due("chosen(2, -1)", x.chosen(2, -1), 10);
        due("chosen(2, 0)", x.chosen(2, 0), 1);
        due("chosen(2, 1)", x.chosen(2, 1), 0);
        due("chosen(2, 2)", x.chosen(2, 2), 1);
        says("chosen: -1 there are not so many TOKENS");
        for (int k : new int[] {3, 6, -2, LOW, HIGH}) {
            due("chosen(2, " + k + ")", x.chosen(2, k), -1);
            due("it is told ahead of -3, chosen(0, " + k + ")", x.chosen(0, k), -1);
        }
        says("chosen: -2 (first) the LIMIT");
        for (int limit : new int[] {-1, 51, LOW, HIGH}) {
            due("chosen(" + limit + ", 0)", x.chosen(limit, 0), -2);
            due("chosen(" + limit + ", 3)", x.chosen(limit, 3), -2);
        }
        says("-3 some TOKEN has no WORD within it");
        for (int k = -1; k < 3; k++) {
            due("the last one, chosen(1, " + k + ")", x.chosen(1, k), -3);
        }
        x.tokens("ab", "a", "b");
        due("the first one, chosen(1, 1)", x.chosen(1, 1), -3);
        x.tokens("a", "ab", "b");
        due("one between, chosen(1, 2)", x.chosen(1, 2), -3);
        due("within it again, chosen(2, 2)", x.chosen(2, 2), 0);
        says("-3 or THE LINE is empty");
        x.line();
        due("chosen(50, -1)", x.chosen(50, -1), -3);
        due("chosen(50, 0): no such TOKEN is told first", x.chosen(50, 0), -1);
        due("chosen(51, -1): the LIMIT is told first", x.chosen(51, -1), -2);
        due("chosen(51, 0): the LIMIT is told first", x.chosen(51, 0), -2);
        says("CHOSEN, no WORDS");
        Speller y = new Speller();
        y.tokens("a");
        due("chosen(50, -1)", y.chosen(50, -1), -3);
        due("chosen(50, 0)", y.chosen(50, 0), -3);
        due("chosen(50, 1)", y.chosen(50, 1), -1);
        says("CHOSEN, 60 WORDS and 6 TOKENS");
        Speller z = full();
        z.tokens("emmmmmmmmmmm", "e", "dm", "cmm", "b", "ammmmmmmmmmm");
        due("chosen(0, -1)", z.chosen(0, -1), 20);
        int[] row = {59, 48, 37, 26, 12, 11};
        for (int k = 0; k < 6; k++) {
            due("chosen(0, " + k + ")", z.chosen(0, k), row[k]);
        }
    }

    private static void sharePromise() {
        says("1000 times the DISTANCE of a WORD by how many LETTERS are typed, cut");
        Speller x = new Speller();
        x.tell("abc", 1);
        due("DISTANCE 0", x.share(0), 0);
        x.type("abd");
        due("3 by 3", x.share(0), 1000);
        x.type("acb");
        due("1 by 3", x.share(0), 333);
        x.type("abcddd");
        due("6 by 6", x.share(0), 1000);
        x.type("acbdddd");
        due("9 by 7", x.share(0), 1285);
        x.tell(TWELVE, 1);
        x.type("a");
        for (int kind = 0; kind < 4; kind++) {
            x.price(kind, 9);
        }
        due("99 by 1", x.share(1), 99000);
        x.type("z");
        due("the most, 108 by 1", x.share(1), 108000);
        x.type("zzzzzzzzzzzz");
        due("108 by 12", x.share(1), 9000);
        says("ArithmeticException: none is");
        x.clear();
        due("share(0) throws", x.share(0), Speller.THROWN);
        due("share(1) throws", x.share(1), Speller.THROWN);
        due("nothing is changed by it", x.clear(), 0);
        says("share: -1 (first)");
        for (int word : new int[] {-1, 2, 60, LOW, HIGH}) {
            due("nothing typed, share(" + word + ")", x.share(word), -1);
        }
        x.type("a");
        for (int word : new int[] {-1, 2, 60, LOW, HIGH}) {
            due("one typed, share(" + word + ")", x.share(word), -1);
        }
    }
}
