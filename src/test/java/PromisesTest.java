/** Each promise of the document: ordinary inputs, the edges it names, and wrong inputs. */
public final class PromisesTest {
    private static final Check CHECK = new Check("PromisesTest");
    private static final int REFUSED = WordTerms.REFUSED, NONE = WordTerms.NONE, FULL = WordTerms.FULL;
    private static final int LOWEST = Integer.MIN_VALUE, HIGHEST = Integer.MAX_VALUE;

    public static void main(String[] args) {
        newObject();
        feed();
        feedBytes();
        end();
        read();
        readBounds();
        termEndings();
        termCut();
        sign();
        different();
        first();
        compare();
        apart();
        apartRefusals();
        nearest();
        plain();
        plainFull();
        CHECK.finish();
    }

    private static void due(String what, Object got, Object want) {
        CHECK.due(what, got, want);
    }

    private static void newObject() {
        WordTerms x = new WordTerms();
        due("1: end(1)", x.end(1), REFUSED);
        due("1: end(0)", x.end(0), 0);
        due("1: different()", x.different(), 0);
        due("1: sign(0, -1)", x.sign(0, -1), NONE);
        due("1: read()", x.read(), 0);
        WordTerms used = Check.textOf("one two");
        due("1: a second object", new WordTerms().different(), 0);
        due("1: the first object beside it", used.different(), 2);
    }

    private static void feed() {
        WordTerms x = new WordTerms();
        for (int n = 20; n <= 300; n += 20) {
            due("2: feed to " + n, x.feed(0x61616161, 0, -1, LOWEST, HIGHEST), n);
        }
        due("2: feed to 320", x.feed(0, 0, 0, 0, 0), FULL);
        due("2: the tape after FULL", x.end(300), 300);
        x.end(281);
        due("2: feed to 301", x.feed(0, 0, 0, 0, 0), FULL);
        due("2: the tape after FULL at 281", Check.onTape(x), 281);
        x.end(280);
        due("2: feed from 280", x.feed(0, 0, 0, 0, 0), 300);
        x.end(7);
        due("2: feed from 7", x.feed(0, 0, 0, 0, 0), 27);
    }

    private static void feedBytes() {
        WordTerms x = new WordTerms();
        x.feed(0x61626364, 0x65666768, 0x696a6b6c, 0x6d6e6f70, 0x71723031);
        due("2: one word of the bytes", x.read(), 1);
        due("2: the order of the bytes", Check.terms(x), "abcdefghijklmnopqr01");
        x.feed(0xe1616280, 0xffc1da63, 0, 0, 0x7a000039);
        due("2: bytes above 127 are no signs", x.read(), 4);
        due("2: words between them", Check.terms(x), "ab c z 9");
        x.feed(0x61616161, 0x61616161, 0x61616161, 0x61616161, 0x61616161);
        x.end(2);
        x.feed(0x62620000, 0, 0, 0, 0);
        x.read();
        due("2: a feed comes behind what is there", Check.terms(x), "aabb");
    }

    private static void end() {
        WordTerms x = new WordTerms();
        Check.type(x, "abc def");
        due("3: end(8) of 7", x.end(8), REFUSED);
        due("3: end(-1)", x.end(-1), REFUSED);
        due("3: end(lowest)", x.end(LOWEST), REFUSED);
        due("3: end(highest)", x.end(HIGHEST), REFUSED);
        due("3: end(7) of 7", x.end(7), 7);
        due("3: end(5)", x.end(5), 5);
        due("3: end(6) of 5", x.end(6), REFUSED);
        x.read();
        due("3: what was left", Check.terms(x), "abc d");
        Check.type(x, "ghi");
        due("3: end(0)", x.end(0), 0);
        due("3: read() of nothing", x.read(), 0);
    }

    private static void read() {
        WordTerms x = new WordTerms();
        Check.type(x, "  The Cats, 2 DOGS-and...x9Y ");
        due("4: read()", x.read(), 6);
        due("4: terms", Check.terms(x), "the cat 2 dog and x9y");
        due("4: the tape is empty", x.end(1), REFUSED);
        Check.type(x, "new");
        due("4: read() again", x.read(), 1);
        due("4: the new text only", Check.terms(x), "new");
        Check.type(x, " .,-!");
        due("4: read() of no words", x.read(), 0);
        due("4: no term is left", x.sign(0, -1), NONE);
        Check.type(x, "one");
        x.read();
        due("4: read() of an empty tape", x.read(), 0);
        due("4: nothing is left", x.different(), 0);
        Check.type(x, "a/0:b@9[c`z{A~Z_");
        due("4: neighbours of signs", x.read(), 8);
        due("4: terms between them", Check.terms(x), "a 0 b 9 c z a z");
    }

    private static void readBounds() {
        WordTerms x = new WordTerms();
        Check.type(x, "a ".repeat(150));
        due("4: 150 words", x.read(), 150);
        due("4: the last of 150", x.sign(149, 0), (int) 'a');
        Check.type(x, " b".repeat(150));
        due("4: 150 words, the tape's last byte a sign", x.read(), 150);
        due("4: the last of them", x.sign(149, 0), (int) 'b');
        Check.type(x, "c".repeat(300));
        due("4: one word of 300", x.read(), 1);
        due("4: its first 24 signs", Check.terms(x), "c".repeat(24));
    }

    private static void termEndings() {
        ending("flies", "fly");
        ending("FLIES", "fly");
        ending("dies", "die");
        ending("ies", "ies");
        ending("iies", "iie");
        ending("stories", "story");
        ending("12ies", "12y");
        ending("iesies", "iesy");
        ending("cats", "cat");
        ending("CATS", "cat");
        ending("gas", "gas");
        ending("s", "s");
        ending("is", "is");
        ending("glass", "glass");
        ending("GLASS", "glass");
        ending("pass", "pass");
        ending("virus", "virus");
        ending("VIRUS", "virus");
        ending("plus", "plus");
        ending("cactuses", "cactuse");
        ending("1990s", "1990");
        ending("series", "sery");
        ending("yes", "yes");
        ending("eyes", "eye");
        ending("cat", "cat");
        ending("flie", "flie");
        ending("iesx", "iesx");
    }

    private static void ending(String word, String term) {
        due("4: the term of " + word, Check.terms(Check.textOf(word)), term);
        due("4: the term of " + word + " in a line", Check.terms(Check.textOf("ss " + word + " i")), "ss " + term + " i");
        WordTerms x = new WordTerms();
        Check.type(x, term);
        x.plain();
        Check.type(x, word);
        due("9: apart from the term of " + word, x.apart(0), 0);
    }

    private static void termCut() {
        String twenty = "abcdefghijklmnopqrst";
        cut(twenty + "0123", twenty + "0123");
        cut(twenty + "01234", twenty + "0123");
        cut(twenty + "012s", twenty + "012");
        cut(twenty + "0123s", twenty + "0123");
        cut(twenty + "012ss", twenty + "012s");
        cut(twenty + "012s4", twenty + "012s");
        cut(twenty + "0ies", twenty + "0y");
        cut(twenty + "01ies", twenty + "01y");
        cut(twenty + "012ies", twenty + "012y");
        cut(twenty + "0123ies", twenty + "0123");
        cut(twenty + "0iesx", twenty + "0ies");
        cut(twenty + "01iesx", twenty + "01ie");
    }

    private static void cut(String word, String term) {
        due("4: the cut term of " + word, Check.terms(Check.textOf(word + " b")), term + " b");
        due("4: its length", Check.textOf(word).sign(0, -1), term.length());
    }

    private static void sign() {
        WordTerms x = Check.textOf("Ab9 xyz");
        due("5: sign(0, -1)", x.sign(0, -1), 3);
        due("5: sign(0, 0)", x.sign(0, 0), (int) 'a');
        due("5: sign(0, 2)", x.sign(0, 2), (int) '9');
        due("5: sign(1, 1)", x.sign(1, 1), (int) 'y');
        due("5: sign(0, 3)", x.sign(0, 3), NONE);
        due("5: sign(0, -2)", x.sign(0, -2), NONE);
        due("5: sign(2, 0)", x.sign(2, 0), NONE);
        due("5: sign(2, -1)", x.sign(2, -1), NONE);
        due("5: sign(-1, -1)", x.sign(-1, -1), NONE);
        due("5: sign(-1, 0)", x.sign(-1, 0), NONE);
        for (int wrong : new int[] {LOWEST, HIGHEST, 24, 149, 150, 151}) {
            due("5: sign(" + wrong + ", 0)", x.sign(wrong, 0), NONE);
            due("5: sign(0, " + wrong + ")", x.sign(0, wrong), NONE);
        }
        Check.type(x, "none");
        x.nearest();
        due("5: sign(150, -1) after nearest", x.sign(150, -1), NONE);
        Check.type(x, "tape");
        x.sign(0, 0);
        due("5: the tape stays", Check.onTape(x), 4);
    }

    private static void different() {
        due("6: of none", new WordTerms().different(), 0);
        due("6: of one", Check.textOf("a").different(), 1);
        due("6: of all the same", Check.textOf("cat Cats CAT cats").different(), 1);
        due("6: of some", Check.textOf("b a b c a b").different(), 3);
        due("6: a beginning is not the same", Check.textOf("a ab abc").different(), 3);
        due("6: of 150", Check.textOf("a b ".repeat(75)).different(), 2);
        WordTerms x = Check.textOf("cat");
        Check.type(x, "cats");
        x.plain();
        due("6: with a plain one", x.different(), 2);
        Check.type(x, "tape");
        x.different();
        due("6: the tape stays", Check.onTape(x), 4);
    }

    private static void first() {
        WordTerms x = Check.textOf("b cat a Cats b ab cat");
        int[] firsts = {0, 1, 2, 1, 0, 5, 1};
        for (int k = 0; k < firsts.length; k++) {
            due("7: first(" + k + ")", x.first(k), firsts[k]);
        }
        for (int wrong : new int[] {-1, 7, 150, LOWEST, HIGHEST}) {
            due("7: first(" + wrong + ")", x.first(wrong), NONE);
        }
        Check.type(x, "tape");
        x.first(0);
        due("7: the tape stays", Check.onTape(x), 4);
    }

    private static void compare() {
        WordTerms x = Check.textOf("ab abc b 9 z A ab");
        due("8: a beginning before what is longer", x.compare(0, 1), -1);
        due("8: what is longer behind", x.compare(1, 0), 1);
        due("8: the first other sign decides", x.compare(1, 2), -1);
        due("8: and not the length", x.compare(2, 1), 1);
        due("8: digits before letters", x.compare(3, 5), -1);
        due("8: far apart is 1 too", x.compare(4, 3), 1);
        due("8: far apart is -1 too", x.compare(3, 4), -1);
        due("8: the same", x.compare(0, 6), 0);
        due("8: itself", x.compare(4, 4), 0);
        due("8: much shorter is -1 too", Check.textOf("a abcdef").compare(0, 1), -1);
        for (int wrong : new int[] {-1, 7, 150, LOWEST, HIGHEST}) {
            due("8: compare(0, " + wrong + ")", x.compare(0, wrong), NONE);
            due("8: compare(" + wrong + ", 0)", x.compare(wrong, 0), NONE);
            due("8: compare(" + wrong + ", itself)", x.compare(wrong, wrong), NONE);
        }
        Check.type(x, "tape");
        x.compare(0, 1);
        due("8: the tape stays", Check.onTape(x), 4);
    }

    private static void apart() {
        apart("kitten", "sitting", 3);
        apart("sitting", "kitten", 3);
        apart("abc", "abc", 0);
        apart("abc", "ABC", 0);
        apart("abc", "xbc", 1);
        apart("abc", "ab", 1);
        apart("ab", "abc", 1);
        apart("ab", "ba", 2);
        apart("abcdef", "bcdefa", 2);
        apart("a", "z", 1);
        apart("cat", "cats", 0);
        apart("story", "stories", 0);
        apart("saturday", "sunday", 3);
        apart("a".repeat(24), "b".repeat(24), 24);
        apart("a".repeat(24), "b", 24);
        apart("b", "a".repeat(24), 24);
        apart("a".repeat(24), "a".repeat(300), 0);
    }

    private static void apart(String term, String word, int far) {
        WordTerms x = Check.textOf("other " + term);
        Check.type(x, word);
        due("9: " + term + " and " + word, x.apart(1), far);
        due("9: the tape is empty", x.end(1), REFUSED);
        due("9: the text stays", Check.terms(x), "other " + term);
    }

    private static void apartRefusals() {
        WordTerms x = Check.textOf("abc");
        Check.type(x, "ab");
        for (int wrong : new int[] {-1, 1, 150, LOWEST, HIGHEST}) {
            due("9: apart(" + wrong + ")", x.apart(wrong), NONE);
        }
        due("9: the tape stays", x.apart(0), 1);
        due("9: apart of an empty tape", x.apart(0), REFUSED);
        due("9: NONE comes first", x.apart(1), NONE);
        for (String noWord : new String[] {" ab", "ab ", "a b", " ", "ab!", "\0", "ab\0", "\u00e4b", "a-b"}) {
            Check.type(x, noWord);
            due("9: apart(1) of no word", x.apart(1), NONE);
            due("9: the tape stays", x.end(noWord.length()), noWord.length());
            due("9: apart(0) of no word", x.apart(0), REFUSED);
            due("9: it is empty then", x.end(1), REFUSED);
        }
    }

    private static void nearest() {
        WordTerms x = Check.textOf("house mouse mice mouse horse");
        String[] words = {"mouse", "HOUSES", "mic", "hors", "ouse", "zzzzz", "mousey"};
        int[] numbers = {1, 0, 2, 4, 0, 0, 1};
        for (int i = 0; i < words.length; i++) {
            Check.type(x, words[i]);
            due("10: nearest of " + words[i], x.nearest(), numbers[i]);
            due("10: the tape is empty", x.end(1), REFUSED);
        }
        due("10: nearest of an empty tape", x.nearest(), REFUSED);
        Check.type(x, "two words");
        due("10: nearest of two words", x.nearest(), REFUSED);
        due("10: it is empty then", x.end(1), REFUSED);
        due("10: the text stays", Check.terms(x), "house mouse mice mouse horse");
        WordTerms far = Check.textOf("a".repeat(24));
        Check.type(far, "b".repeat(24));
        due("10: nearest, all 24 apart", far.nearest(), 0);
        WordTerms none = new WordTerms();
        due("10: REFUSED comes first", none.nearest(), REFUSED);
        Check.type(none, "a b");
        due("10: REFUSED comes first, with bytes", none.nearest(), REFUSED);
        Check.type(none, "word");
        due("10: nearest of an empty text", none.nearest(), NONE);
        due("10: the tape is empty after NONE", none.end(1), REFUSED);
    }

    private static void plain() {
        WordTerms x = Check.textOf("cats");
        plain(x, "Cats", 2);
        plain(x, "FLIES", 3);
        plain(x, "x".repeat(23) + "sies", 4);
        plain(x, "9", 5);
        due("11: the terms", Check.terms(x), "cat cats flies " + "x".repeat(23) + "s 9");
        due("11: plain of an empty tape", x.plain(), REFUSED);
        for (String noWord : new String[] {" ab", "ab ", "a b", " ", "ab\0"}) {
            Check.type(x, noWord);
            due("11: plain of no word", x.plain(), REFUSED);
            due("11: it is empty then", x.end(1), REFUSED);
        }
        due("11: the text stays", x.sign(5, -1), NONE);
        Check.type(x, "new");
        due("11: read puts new terms in the place of plain ones", x.read(), 1);
        due("11: only them", Check.terms(x), "new");
    }

    private static void plain(WordTerms x, String word, int count) {
        Check.type(x, word);
        due("11: plain of " + word, x.plain(), count);
        due("11: the tape is empty", x.end(1), REFUSED);
    }

    private static void plainFull() {
        WordTerms x = Check.textOf("a ".repeat(149));
        plain(x, "b".repeat(24), 150);
        Check.type(x, "c");
        due("11: plain with 150", x.plain(), REFUSED);
        due("11: it is empty then", x.end(1), REFUSED);
        due("11: the last term stays", Check.term(x, 149), "b".repeat(24));
        due("11: no term 150", x.sign(150, -1), NONE);
        Check.type(x, "b".repeat(23));
        due("11: nearest of 150", x.nearest(), 149);
        Check.type(x, "bb");
        due("11: apart with 150", x.apart(149), 22);
        due("11: the last term still stays", Check.term(x, 149), "b".repeat(24));
    }
}
