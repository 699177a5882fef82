/** Each promise of the document by itself: ordinary inputs, the edges, wrong inputs. */
public final class PromisesTest {
    private static final Check CHECK = new Check();
    private static final int[] FAR = {Integer.MIN_VALUE, Integer.MAX_VALUE};

    private static void due(String call, long got, long want) {
        CHECK.due(call, got, want);
    }

    public static void main(String[] args) {
        promise1();
        promise2();
        promise3();
        promise4();
        promise5();
        promise6();
        promise7();
        promise8();
        promise9();
        promise10();
        promise11and12();
        promise13and14();
        promise15and16();
        promise17();
        promise18and19();
        promise20();
        promise21();
        promise22();
        fullHouse();
        CHECK.end();
    }

    private static void promise1() {
        Speller x = new Speller();
        due("1 clear", x.clear(), 0);
        due("1 line", x.line(), 0);
        due("1 at", x.at(0, -2), -1);
        due("1 suggest", x.suggest(50), 0);
        due("1 endings", x.endings(50), 0);
        due("1 pair", x.pair(0, 0, true), -1);
        int[] first = {2, 2, 3, 1, 5, 4};
        for (int kind = 0; kind < first.length; kind++) {
            due("1 price " + kind, x.price(kind, 0), first[kind]);
        }
        for (int a = 0; a < 26; a++) {
            Speller y = new Speller();
            for (int b = 0; b < 26; b++) {
                due("1 near " + a + " " + b, y.near(a, b, -1), a == b ? -1 : -3);
            }
        }
        Speller other = new Speller();
        x.tell("ab", 1);
        due("1 objects share nothing", other.at(0, -2), -1);
        due("1 nor what is typed", other.clear(), 0);
        due("1 nor prices", other.price(0, 1), 2);
    }

    private static void promise2() {
        Speller x = new Speller();
        due("2 letter(-1)", x.letter(-1), -1);
        due("2 letter(26)", x.letter(26), -1);
        for (int i = 1; i <= 12; i++) {
            due("2 letter " + i, x.letter(i == 1 ? 0 : 25), i);
        }
        due("2 no room", x.letter(3), -4);
        due("2 no letter is ahead of no room", x.letter(26), -1);
        for (int c : FAR) {
            due("2 letter(" + c + ")", x.letter(c), -1);
        }
        due("2 refusals change nothing", x.clear(), 12);
    }

    private static void promise3() {
        Speller x = new Speller();
        x.type("abc");
        due("3 clear", x.clear(), 3);
        due("3 clear again", x.clear(), 0);
        due("3 it is empty", x.letter(4), 1);
        due("3 word", x.word(1), 0);
        due("3 what was cleared is gone", x.at(0, 0), 4);
        due("3 and has one letter", x.at(0, -2), 1);
        due("3 words stay", x.clear() + x.at(0, -2), 2);
    }

    private static void promise4() {
        Speller x = new Speller();
        due("4 nothing is typed", x.word(1), -2);
        x.type("ab");
        due("4 COUNT 0", x.word(0), -2);
        due("4 COUNT 1001", x.word(1001), -2);
        due("4 COUNT -1", x.word(-1), -2);
        due("4 COUNT 1", x.word(1), 0);
        due("4 it is one", x.word(7), -3);
        due("4 COUNT is ahead of it", x.word(1001), -2);
        due("4 its COUNT stays", x.count(0, 1), 1);
        due("4 THE TYPED stays", x.letter(2), 3);
        due("4 COUNT 1000", x.word(1000), 1);
        due("4 a word's letters stay", x.at(0, -2), 2);
        due("4 the COUNT is kept", x.count(1, 5), 1000);
        for (int n : FAR) {
            due("4 COUNT " + n, x.word(n), -2);
        }
        for (int i = 2; i < 60; i++) {
            due("4 word " + i, x.tell("" + (char) ('a' + i / 26) + (char) ('a' + i % 26) + "z", 1), i);
        }
        due("4 no room", x.tell("zz", 1), -4);
        due("4 bounds are ahead of no room", x.word(0), -2);
        due("4 as told is ahead of no room", x.tell("ab", 1), -3);
        x.clear();
        due("4 nothing typed is ahead of no room", x.word(1), -2);
        due("4 there are 60", x.at(59, -2), 3);
        due("4 and no more", x.at(60, -2), -1);
    }

    private static void promise5() {
        Speller x = new Speller();
        due("5 no word", x.count(0, 1), -1);
        x.tell("ab", 7);
        due("5 count", x.count(0, 1000), 7);
        due("5 count 1", x.count(0, 1), 1000);
        due("5 count 0", x.count(0, 0), -2);
        due("5 count 1001", x.count(0, 1001), -2);
        due("5 count -1", x.count(0, -1), -2);
        due("5 refused", x.count(0, 3), 1);
        due("5 no word is first", x.count(1, 0), -1);
        due("5 word -1", x.count(-1, 1), -1);
        for (int far : FAR) {
            due("5 word " + far, x.count(far, 1), -1);
            due("5 n " + far, x.count(0, far), -2);
        }
        due("5 still", x.count(0, 3), 3);
    }

    private static void promise6() {
        Speller x = new Speller();
        x.tell("cab", 1);
        x.tell("ca", 1);
        x.tell("b", 1);
        x.tell("caa", 1);
        x.tell("abcdefghijkl", 1);
        int[] order = {4, 2, 1, 3, 0};
        int[] lengths = {3, 2, 1, 3, 12};
        for (int word = 0; word < 5; word++) {
            due("6 order of " + word, x.at(word, -1), order[word]);
            due("6 length of " + word, x.at(word, -2), lengths[word]);
            due("6 behind the last of " + word, x.at(word, lengths[word]), -1);
            due("6 at -3 of " + word, x.at(word, -3), -1);
            for (int far : FAR) {
                due("6 at " + far + " of " + word, x.at(word, far), -1);
            }
        }
        for (int i = 0; i < 12; i++) {
            due("6 letter " + i, x.at(4, i), i);
        }
        due("6 c", x.at(0, 0), 2);
        due("6 a", x.at(0, 1), 0);
        due("6 b", x.at(0, 2), 1);
        due("6 no word", x.at(5, -1), -1);
        due("6 no word", x.at(5, 0), -1);
        due("6 no word", x.at(-1, -2), -1);
        for (int far : FAR) {
            due("6 word " + far, x.at(far, -2), -1);
        }
    }

    private static void promise7() {
        Speller x = new Speller();
        int[] first = {2, 2, 3, 1, 5, 4};
        int[] most = {9, 9, 9, 9, 50, 50};
        for (int kind = 0; kind < 6; kind++) {
            due("7 too much", x.price(kind, most[kind] + 1), -2);
            due("7 too little", x.price(kind, -1), -2);
            due("7 most", x.price(kind, most[kind]), first[kind]);
            due("7 none", x.price(kind, 0), most[kind]);
            for (int far : FAR) {
                due("7 v " + far, x.price(kind, far), -2);
            }
            due("7 back", x.price(kind, first[kind]), 0);
        }
        due("7 kind -1", x.price(-1, 1), -2);
        due("7 kind 6", x.price(6, 1), -2);
        for (int far : FAR) {
            due("7 kind " + far, x.price(far, 1), -2);
        }
        x.tell("ab", 1);
        x.type("a");
        x.price(0, 7);
        due("7 putting in", x.distance(0), 7);
        x.type("abc");
        x.price(1, 6);
        due("7 leaving out", x.distance(0), 6);
        x.type("ac");
        x.price(2, 8);
        due("7 becoming", x.distance(0), 8);
        x.type("ba");
        x.price(3, 9);
        due("7 changing places", x.distance(0), 9);
    }

    private static void promise8() {
        Speller x = new Speller();
        due("8 none yet", x.near(0, 25, 9), -3);
        due("8 it has one", x.near(0, 25, 0), 9);
        due("8 the other way it has none", x.near(25, 0, 4), -3);
        due("8 no more", x.near(0, 25, -1), 0);
        due("8 none", x.near(0, 25, -1), -3);
        due("8 a is b", x.near(3, 3, 1), -1);
        due("8 a is no letter", x.near(-1, 3, 1), -1);
        due("8 a is no letter", x.near(26, 3, 1), -1);
        due("8 b is no letter", x.near(3, -1, 1), -1);
        due("8 b is no letter", x.near(3, 26, 1), -1);
        due("8 v too much", x.near(3, 4, 10), -2);
        due("8 v too little", x.near(3, 4, -2), -2);
        due("8 no letter is first", x.near(3, 3, 10), -1);
        due("8 refused", x.near(3, 4, 1), -3);
        for (int far : FAR) {
            due("8 a " + far, x.near(far, 3, 1), -1);
            due("8 b " + far, x.near(3, far, 1), -1);
            due("8 v " + far, x.near(3, 4, far), -2);
        }
        x.tell("e", 1);
        x.type("d");
        due("8 d becomes e at its own price", x.distance(0), 1);
        x.tell("d", 1);
        x.type("e");
        due("8 e becomes d at price 2", x.distance(1), 3);
        x.type("d");
        x.near(3, 4, -1);
        due("8 no more", x.distance(0), 3);
        x.near(3, 4, 9);
        due("8 out and in is cheaper", x.distance(0), 4);
    }

    private static void promise9() {
        Speller x = new Speller();
        due("9 no word", x.distance(0), -1);
        x.tell("abcd", 1);
        due("9 the same", x.distance(0), 0);
        String[] typed = {"", "abc", "abcde", "abxd", "bacd", "abdc", "bcad", "badc", "dcba", "acbxd"};
        int[] prices = {8, 2, 2, 3, 1, 1, 4, 2, 7, 3};
        for (int i = 0; i < typed.length; i++) {
            x.type(typed[i]);
            due("9 " + typed[i], x.distance(0), prices[i]);
        }
        due("9 word -1", x.distance(-1), -1);
        due("9 word 1", x.distance(1), -1);
        for (int far : FAR) {
            due("9 word " + far, x.distance(far), -1);
        }
        Speller y = new Speller();
        y.tell("bxa", 1);
        y.type("ab");
        due("9 nothing comes between two that change places", y.distance(0), 6);
        y.tell("ab", 1);
        y.type("bxa");
        due("9 nor goes from between them", y.distance(1), 6);
        y.tell("bb", 1);
        y.type("ba");
        y.price(3, 0);
        y.near(1, 0, 0);
        due("9 each letter is in one edit at most", y.distance(2), 3);
        Speller z = new Speller();
        z.tell("ab", 1);
        z.type("bb");
        z.near(1, 0, 0);
        due("9 for nothing", z.distance(0), 0);
        z.price(0, 9);
        z.price(1, 9);
        z.tell("cccccccccccc", 1);
        z.type("aaaaaaaaaaaa");
        z.price(2, 9);
        due("9 the longest", z.distance(1), 108);
    }

    private static void promise10() {
        Speller x = new Speller();
        due("10 no word", x.begins(0), -1);
        x.tell("abcd", 1);
        String[] typed = {"", "a", "ab", "abc", "abcd", "abcde", "ba", "b", "xb", "acb", "xyz", "abxc"};
        int[] prices = {0, 0, 0, 0, 0, 2, 1, 2, 3, 1, 6, 2};
        for (int i = 0; i < typed.length; i++) {
            x.type(typed[i]);
            due("10 " + typed[i], x.begins(0), prices[i]);
        }
        due("10 word -1", x.begins(-1), -1);
        due("10 word 1", x.begins(1), -1);
        for (int far : FAR) {
            due("10 word " + far, x.begins(far), -1);
        }
    }

    private static void edits(Speller x, int word, String typed, int... kindsAndPlaces) {
        x.type(typed);
        int n = kindsAndPlaces.length / 2;
        due("11 how many for " + typed, x.edit(word, -1), n);
        for (int k = 0; k < n; k++) {
            due("11 edit " + k + " for " + typed, x.edit(word, k), kindsAndPlaces[2 * k]);
            due("12 place " + k + " for " + typed, x.place(word, k), kindsAndPlaces[2 * k + 1]);
        }
        due("11 behind the last for " + typed, x.edit(word, n), -1);
        due("12 behind the last for " + typed, x.place(word, n), -1);
        due("11 edit -2 for " + typed, x.edit(word, -2), -1);
        due("12 place -1 for " + typed, x.place(word, -1), -1);
        for (int far : FAR) {
            due("11 edit " + far, x.edit(word, far), -1);
            due("12 place " + far, x.place(word, far), -1);
            due("11 word " + far, x.edit(far, -1), -1);
            due("12 word " + far, x.place(far, 0), -1);
        }
    }

    private static void promise11and12() {
        Speller x = new Speller();
        due("11 no word", x.edit(0, -1), -1);
        due("12 no word", x.place(0, 0), -1);
        x.tell("abcd", 1);
        due("11 no word", x.edit(1, -1), -1);
        due("12 no word", x.place(-1, 0), -1);
        edits(x, 0, "abcd");
        edits(x, 0, "", 0, 0, 0, 0, 0, 0, 0, 0);
        edits(x, 0, "abd", 0, 2);
        edits(x, 0, "abxcd", 1, 2);
        edits(x, 0, "axcd", 2, 1);
        edits(x, 0, "acbd", 3, 1);
        edits(x, 0, "badc", 3, 0, 3, 2);
        edits(x, 0, "bacxd", 3, 0, 1, 3);
        edits(x, 0, "xbc", 2, 0, 0, 3);
        x.tell("aa", 1);
        edits(x, 1, "a", 0, 0);
        edits(x, 1, "aaa", 1, 0);

        Speller v = new Speller();
        v.tell("ab", 1);
        v.price(2, 4);
        edits(v, 0, "ac", 2, 1);
        v.price(2, 5);
        edits(v, 0, "ac", 0, 1, 1, 1);
        v.price(2, 4);
        v.price(3, 8);
        edits(v, 0, "ba", 0, 0, 1, 1);
        v.price(3, 4);
        edits(v, 0, "ba", 3, 0);
        v.price(2, 2);
        edits(v, 0, "ba", 2, 0, 2, 1);

        Speller z = new Speller();
        z.tell("ab", 1);
        z.price(0, 1);
        z.price(1, 3);
        edits(z, 0, "abc", 1, 2);
        edits(z, 0, "b", 0, 0);
        edits(z, 0, "bcb", 1, 0, 2, 1);
        z.price(2, 9);
        edits(z, 0, "xy", 0, 0, 0, 0, 1, 0, 1, 1);

        Speller y = new Speller();
        y.tell("bb", 1);
        y.price(0, 0);
        y.price(1, 0);
        edits(y, 0, "ab", 0, 0, 1, 0);
        y.near(0, 1, 0);
        edits(y, 0, "ab", 2, 0);
        edits(y, 0, "ba", 2, 1);
        y.near(0, 1, -1);
        edits(y, 0, "ba", 0, 0, 1, 1);
    }

    private static void promise13and14() {
        Speller x = new Speller();
        due("14 no words", x.suggestion(0, 0), -1);
        x.tell("abd", 5);
        x.tell("abc", 5);
        x.tell("abe", 6);
        x.tell("ab", 1);
        x.tell("ba", 1000);
        x.type("ab");
        int[] limits = {0, 1, 2, 3, 50};
        int[] many = {1, 2, 5, 5, 5};
        int[] row = {3, 4, 2, 1, 0};
        for (int i = 0; i < limits.length; i++) {
            due("13 " + limits[i], x.suggest(limits[i]), many[i]);
            for (int k = 0; k < 5; k++) {
                due("14 " + limits[i] + " " + k, x.suggestion(limits[i], k), k < many[i] ? row[k] : -1);
            }
        }
        x.count(0, 7);
        due("14 the greater COUNT", x.suggestion(2, 2), 0);
        due("14 then", x.suggestion(2, 3), 2);
        due("14 then", x.suggestion(2, 4), 1);
        for (int limit : new int[] {-1, 51, FAR[0], FAR[1]}) {
            due("13 LIMIT " + limit, x.suggest(limit), -2);
            due("14 LIMIT " + limit, x.suggestion(limit, 0), -2);
            due("14 the LIMIT is first " + limit, x.suggestion(limit, -1), -2);
        }
        due("14 i 5", x.suggestion(50, 5), -1);
        due("14 i -1", x.suggestion(50, -1), -1);
        for (int far : FAR) {
            due("14 i " + far, x.suggestion(50, far), -1);
        }
        x.type("zzzzzzzzzzzz");
        x.price(1, 9);
        x.price(2, 9);
        due("13 none is so near", x.suggest(50), 0);
    }

    private static void promise15and16() {
        Speller x = new Speller();
        due("16 no words", x.ending(0, 0), -1);
        x.tell("abdxyz", 5);
        x.tell("abc", 5);
        x.tell("abex", 6);
        x.tell("ab", 1);
        x.tell("bax", 1000);
        x.tell("x", 1);
        x.type("ab");
        int[] limits = {0, 1, 2, 3, 4, 50};
        int[] many = {4, 5, 5, 5, 6, 6};
        int[] row = {2, 1, 0, 3, 4, 5};
        for (int i = 0; i < limits.length; i++) {
            due("15 " + limits[i], x.endings(limits[i]), many[i]);
            for (int k = 0; k < 6; k++) {
                due("16 " + limits[i] + " " + k, x.ending(limits[i], k), k < many[i] ? row[k] : -1);
            }
        }
        x.clear();
        due("15 every word begins with nothing", x.endings(0), 6);
        due("16 by COUNT", x.ending(0, 0), 4);
        due("16 then", x.ending(0, 1), 2);
        for (int limit : new int[] {-1, 51, FAR[0], FAR[1]}) {
            due("15 LIMIT " + limit, x.endings(limit), -2);
            due("16 LIMIT " + limit, x.ending(limit, 0), -2);
            due("16 the LIMIT is first " + limit, x.ending(limit, -1), -2);
        }
        due("16 i 6", x.ending(50, 6), -1);
        due("16 i -1", x.ending(50, -1), -1);
        for (int far : FAR) {
            due("16 i " + far, x.ending(50, far), -1);
        }
    }

    private static void parted(Speller x, String typed, int... want) {
        x.type(typed);
        for (int what = 0; what < 4; what++) {
            due("17 " + what + " of " + typed, x.parting(what), want[what]);
        }
        for (int what : new int[] {-1, 4, FAR[0], FAR[1]}) {
            due("17 what " + what, x.parting(what), -2);
        }
    }

    private static void promise17() {
        Speller x = new Speller();
        parted(x, "", -3, -3, -3, -3);
        parted(x, "ab", -3, -3, -3, -3);
        x.tell("the", 1);
        parted(x, "", -3, -3, -3, -3);
        parted(x, "t", -3, -3, -3, -3);
        x.tell("cat", 1);
        x.tell("sat", 1);
        parted(x, "thecat", 5, 3, 0, 1);
        parted(x, "htesta", 7, 3, 0, 2);
        due("17 what PRICE 4 was", x.price(4, 50), 5);
        parted(x, "satthe", 50, 3, 2, 0);
        x.price(4, 0);
        parted(x, "satthe", 0, 3, 2, 0);
        parted(x, "satcat", 0, 3, 2, 1);
        parted(x, "catat", 2, 3, 1, 1);
        parted(x, "xy", 14, 1, 1, 1);
        Speller y = new Speller();
        y.tell("b", 1);
        y.tell("a", 1000);
        parted(y, "ab", 5, 1, 1, 0);
        parted(y, "aab", 7, 1, 1, 1);
        parted(y, "aaaaaaaaaaaa", 25, 1, 1, 1);
        parted(y, "cc", 11, 1, 1, 1);
        y.price(4, 0);
        y.tell("aa", 1);
        y.tell("ab", 1);
        parted(y, "aab", 0, 1, 1, 3);
        parted(y, "aaab", 0, 2, 2, 3);
    }

    private static void promise18and19() {
        Speller x = new Speller();
        due("18 nothing is typed", x.token(), -2);
        for (int i = 1; i <= 6; i++) {
            x.type("abcdefghijkl".substring(0, 2 * i));
            due("18 token " + i, x.token(), i);
            due("18 THE TYPED is empty", x.clear(), 0);
        }
        due("18 bounds are ahead of no room", x.token(), -2);
        x.type("ab");
        due("18 no room", x.token(), -4);
        due("18 refused: THE TYPED stays", x.clear(), 2);
        due("19 line", x.line(), 6);
        due("19 line again", x.line(), 0);
        x.type("a");
        due("18 from the first again", x.token(), 1);
        x.type("abc");
        due("19 line", x.line(), 1);
        due("19 THE TYPED stays", x.clear(), 3);
        x.tell("a", 1);
        x.tell("b", 1);
        x.tokens("a", "b");
        x.tokens("b");
        due("19 old tokens are gone", x.chosen(0, 0), 1);
        due("19 all of them", x.chosen(0, 1), -1);
    }

    private static void promise20() {
        Speller x = new Speller();
        due("20 no word", x.pair(0, 0, true), -1);
        x.tell("a", 1);
        x.tell("b", 1);
        due("20 new", x.pair(0, 1, true), 1);
        due("20 not new", x.pair(0, 1, true), 0);
        due("20 the other way is another one", x.pair(1, 0, false), 0);
        due("20 known", x.pair(1, 0, true), 1);
        due("20 the first one stays", x.pair(0, 1, true), 0);
        due("20 the same word", x.pair(1, 1, true), 1);
        due("20 no more", x.pair(0, 1, false), 1);
        due("20 no more is not new", x.pair(0, 1, false), 0);
        due("20 others stay", x.pair(1, 0, true), 0);
        due("20 a", x.pair(2, 0, true), -1);
        due("20 b", x.pair(0, 2, true), -1);
        due("20 a", x.pair(-1, 0, false), -1);
        due("20 b", x.pair(0, -1, false), -1);
        for (int far : FAR) {
            due("20 a " + far, x.pair(far, 0, true), -1);
            due("20 b " + far, x.pair(0, far, true), -1);
        }
        x.tell("c", 1);
        due("20 a new word is in no pair", x.pair(2, 0, false) + x.pair(0, 2, false) + x.pair(2, 2, false), 0);
    }

    private static void chosen(Speller x, int limit, int cost, int... row) {
        due("21 cost for " + limit, x.chosen(limit, -1), cost);
        for (int k = 0; k < row.length; k++) {
            due("21 word " + k + " for " + limit, x.chosen(limit, k), row[k]);
        }
    }

    private static void promise21() {
        Speller x = new Speller();
        chosen(x, 50, -3, -1);
        x.tokens("b");
        chosen(x, 50, -3, -3, -1);
        x.tell("b", 1);
        chosen(x, 50, 0, 0, -1);
        x.line();
        x.tell("a", 1);
        chosen(x, 50, -3, -1);
        x.tokens("b", "c", "a");
        chosen(x, 2, -3, -3, -3, -3, -1);
        chosen(x, 3, 11, 0, 1, 1, -1);
        x.pair(0, 1, true);
        chosen(x, 3, 7, 0, 1, 1);
        x.pair(0, 1, false);
        x.pair(1, 0, true);
        chosen(x, 3, 10, 1, 0, 1);
        x.price(5, 0);
        chosen(x, 3, 3, 0, 1, 1);
        due("21 what PRICE 5 was", x.price(5, 50), 0);
        chosen(x, 50, 56, 1, 0, 1, -1);
        x.pair(1, 1, true);
        chosen(x, 50, 6, 1, 1, 1);
        chosen(x, 3, 6, 1, 1, 1);
        for (int limit : new int[] {-1, 51, FAR[0], FAR[1]}) {
            due("21 LIMIT " + limit, x.chosen(limit, -1), -2);
            due("21 the LIMIT is first " + limit, x.chosen(limit, 3), -2);
        }
        for (int k : new int[] {3, -2, FAR[0], FAR[1]}) {
            due("21 k " + k, x.chosen(3, k), -1);
            due("21 no such TOKEN is ahead of no WORD, k " + k, x.chosen(0, k), -1);
        }
        x.tokens("a", "b", "a", "b", "a", "b");
        chosen(x, 0, 100, 1, 0, 1, 0, 1, 0);
        x.pair(0, 1, true);
        chosen(x, 0, 0, 1, 0, 1, 0, 1, 0);
        x.type("zzz");
        chosen(x, 0, 0, 1, 0, 1, 0, 1, 0);
    }

    private static void promise22() {
        Speller x = new Speller();
        due("22 no word is first", x.share(0), -1);
        x.tell("abcd", 1);
        due("22 nothing between them", x.share(0), 0);
        x.type("abc");
        due("22 cut", x.share(0), 666);
        x.type("acbd");
        due("22 share", x.share(0), 250);
        x.type("a");
        due("22 above 1000", x.share(0), 6000);
        due("22 no word", x.share(1), -1);
        due("22 no word", x.share(-1), -1);
        x.clear();
        due("22 none is typed", x.share(0), Speller.THROWN);
        due("22 no word is first", x.share(1), -1);
        for (int far : FAR) {
            due("22 word " + far, x.share(far), -1);
        }
    }

    /** 60 words, 12 letters typed, 6 tokens of 12: every row of the object is full. */
    private static void fullHouse() {
        Speller x = new Speller();
        String[] longest = new String[5];
        for (int chain = 0; chain < 5; chain++) {
            x.clear();
            longest[chain] = "";
            for (int n = 0; n < 12; n++) {
                int c = n == 0 ? 4 - chain : 12;
                x.letter(c);
                longest[chain] += (char) ('a' + c);
                due("full word", x.word(1), chain * 12 + n);
            }
        }
        for (int i = 0; i < 60; i++) {
            due("full order of " + i, x.at(i, -1), (4 - i / 12) * 12 + i % 12);
        }
        x.type("zmmmmmmmmmmz");
        due("full suggest", x.suggest(6), 10);
        due("full suggest of all", x.suggest(50), 60);
        due("full endings of all", x.endings(50), 60);
        due("full suggestion, a letter left out", x.suggestion(6, 4), 10);
        due("full suggestion, a letter becoming another", x.suggestion(6, 9), 11);
        due("full last suggestion", x.suggestion(50, 59), 0);
        due("full ending", x.ending(5, 0), 58);
        due("full last ending", x.ending(50, 59), 0);
        due("full edits", x.edit(59, -1), 2);
        due("full parting", x.parting(0), 11);
        due("full parting, its left side", x.parting(1), 11);
        x.price(2, 9);
        x.type("zzzzzzzzzzzz");
        due("full of edits", x.edit(59, -1), 24);
        due("full first", x.edit(59, 0), 0);
        due("full last", x.edit(59, 23), 1);
        due("full last place", x.place(59, 23), 11);
        x.tokens(longest[0], longest[1], longest[2], longest[3], longest[4], longest[0]);
        due("full chosen", x.chosen(50, -1), 20);
        x.price(5, 0);
        due("full chosen for nothing", x.chosen(50, -1), 0);
        for (int k = 0; k < 6; k++) {
            due("full chosen " + k, x.chosen(50, k), 11 + 12 * (k % 5));
        }
        due("full pair", x.pair(59, 59, true), 1);
        due("full pair is one alone", x.pair(58, 59, true), 1);
    }
}
