/** Words below words: promises 17 to 20. */
final class WordSentences extends Sentences {
    private WordSentences() {
    }

    static void run() {
        isBelow();
        embeddings();
        common();
        subwords();
    }

    private static void isBelow() {
        holds("Promise 17", "Returns whether the word of a channel is below the word of the other channel.", () -> {
            due("two empty ones", Make.words("", "").isBelow(0), true);
            due("empty and ten letters", Make.words("", "abcabcabca").isBelow(0), true);
            due("ten letters and empty", Make.words("abcabcabca", "").isBelow(0), false);
            due("ten equal letters", Make.words("abcabcabca", "abcabcabca").isBelow(0), true);
            due("nine of ten", Make.words("abcabcabc", "abcabcabca").isBelow(0), true);
            due("the last nine of ten", Make.words("bcabcabca", "abcabcabca").isBelow(0), true);
            due("ten of nine", Make.words("abcabcabca", "abcabcabc").isBelow(0), false);
            due("at other places", Make.words("acb", "aacbcb").isBelow(0), true);
            due("in another order", Make.words("ab", "ba").isBelow(0), false);
            due("one place for two letters", Make.words("aa", "ab").isBelow(0), false);
        });
        holds("Promise 17", "channel: the channel, 0 or 1", () -> {
            Subject x = Make.words("ab", "cacbc");
            due("channel 0", x.isBelow(0), true);
            due("channel 1", x.isBelow(1), false);
            Subject y = Make.words("cacbc", "ab");
            due("channel 0, longer", y.isBelow(0), false);
            due("channel 1, shorter", y.isBelow(1), true);
        });
        holds("Promise 17", "Returns whether it is below.", () -> {
            Subject x = Make.words("c", "abab");
            due("a letter that is not there", x.isBelow(0), false);
            x.put(1, 2);
            due("at the end", x.isBelow(0), true);
        });
    }

    private static void embeddings() {
        holds("Promise 18", "Returns the number of sets of places in the word of the other channel at which the letters, in "
                + "their order, are the word of a channel.", () -> {
            due("no letter and no place", Make.words("", "").embeddings(0), 1);
            due("no letter and ten places", Make.words("", "abcabcabca").embeddings(0), 1);
            due("ten letters and no place", Make.words("abcabcabca", "").embeddings(0), 0);
            due("ten letters and ten places", Make.words("aaaaaaaaaa", "aaaaaaaaaa").embeddings(0), 1);
            due("one letter and ten places", Make.words("a", "aaaaaaaaaa").embeddings(0), 10);
            due("nine letters and ten places", Make.words("aaaaaaaaa", "aaaaaaaaaa").embeddings(0), 10);
            due("ten letters and nine places", Make.words("aaaaaaaaaa", "aaaaaaaaa").embeddings(0), 0);
            due("the most", Make.words("aaaaa", "aaaaaaaaaa").embeddings(0), 252);
            due("pairs", Make.words("ab", "aabb").embeddings(0), 4);
            due("no pair in this order", Make.words("ab", "bbaa").embeddings(0), 0);
            due("overlapping ones", Make.words("aba", "abababa").embeddings(0), 10);
            due("each letter counts", Make.words("abc", "aabbccabca").embeddings(0), 15);
        });
        holds("Promise 18", "channel: the channel, 0 or 1", () -> {
            Subject x = Make.words("ca", "caccab");
            due("channel 0", x.embeddings(0), 4);
            due("channel 1", x.embeddings(1), 0);
            Subject y = Make.words("caccab", "ca");
            due("channel 0, longer", y.embeddings(0), 0);
            due("channel 1, shorter", y.embeddings(1), 4);
        });
        holds("Promise 18", "Returns the number.", () -> {
            Subject x = Make.words("aaaaa", "aaaaaaaaaa");
            due("252", x.embeddings(0), 252);
            due("the same again", x.embeddings(0), 252);
            due("none the other way", x.embeddings(1), 0);
            x.clear(0);
            x.put(0, 0);
            due("then ten", x.embeddings(0), 10);
            x.clear(1);
            due("then none", x.embeddings(0), 0);
        });
        holds("Promise 18", "Returns the number.", () -> {
            Subject x = Make.words("b", "");
            for (int number = 0; number <= 10; number++) {
                due("letters b", x.embeddings(0), number);
                Check.answer(() -> x.put(1, 1));
            }
        });
    }

    private static void common() {
        holds("Promise 19", "Returns the length of the longest word that is below the words of both channels.", () -> {
            due("two empty ones", Make.words("", "").common(), 0);
            due("an empty one", Make.words("abcabcabca", "").common(), 0);
            due("another empty one", Make.words("", "abcabcabca").common(), 0);
            due("no letter in both", Make.words("abababab", "cccccccccc").common(), 0);
            due("ten equal letters", Make.words("abcabcabca", "abcabcabca").common(), 10);
            due("nine of ten", Make.words("bcabcabca", "abcabcabca").common(), 9);
            due("the last letter", Make.words("aaaaaaaaac", "bbbbbbbbbc").common(), 1);
            due("the first letter", Make.words("caaaaaaaaa", "cbbbbbbbbb").common(), 1);
            due("the last and the first", Make.words("aaaaaaaaac", "cbbbbbbbbb").common(), 1);
            due("the first and the last", Make.words("c", "bbc").common(), 1);
            due("in another order", Make.words("cba", "abcabc").common(), 2);
            due("one place for one letter", Make.words("aa", "a").common(), 1);
            due("neither is below the other", Make.words("abcbabca", "bacabbca").common(), 6);
        });
        holds("Promise 19", "Returns the length of the longest word that is below the words of both channels.", () -> {
            Subject x = Make.words("abcabcabca", "abcabcabca");
            due("ten", x.common(), 10);
            x.clear(0);
            Make.put(x, 0, "bbb");
            due("then three", x.common(), 3);
            x.clear(1);
            Make.put(x, 1, "cabcb");
            due("then two", x.common(), 2);
            x.clear(0);
            due("then none", x.common(), 0);
        });
        holds("Promise 19", "Returns the length.", () -> {
            Subject x = Make.words("abcabcabca", "");
            for (int length = 0; length <= 10; length++) {
                due("of the beginnings", x.common(), length);
                int letter = length % 3;
                Check.answer(() -> x.put(1, letter));
            }
        });
    }

    private static void subwords() {
        holds("Promise 20", "Returns the number of different words that are below the word of a channel.", () -> {
            due("of no letter: the empty one", Make.words("", "a").subwords(0), 1);
            due("of one letter", Make.words("c", "").subwords(0), 2);
            due("of ten equal letters", Make.words("bbbbbbbbbb", "").subwords(0), 11);
            due("the most", Make.words("abcabcabca", "").subwords(0), 600);
            due("of different letters", Make.words("abc", "").subwords(0), 8);
            due("of aba", Make.words("aba", "").subwords(0), 7);
            due("of abab", Make.words("abab", "").subwords(0), 12);
            due("of aabb", Make.words("aabb", "").subwords(0), 9);
        });
        holds("Promise 20", "channel: the channel, 0 or 1", () -> {
            Subject x = Make.words("aa", "abc");
            due("channel 0", x.subwords(0), 3);
            due("channel 1", x.subwords(1), 8);
        });
        holds("Promise 20", "Returns the number.", () -> {
            Subject x = Make.words("abcabcabca", "b");
            due("600", x.subwords(0), 600);
            due("then two of the other channel", x.subwords(1), 2);
            x.clear(0);
            due("then one", x.subwords(0), 1);
        });
        holds("Promise 20", "Returns the number.", () -> {
            Subject x = new Subject();
            int[] numbers = {1, 2, 4, 8, 15, 28, 52, 96, 177, 326, 600};
            for (int length = 0; length <= 10; length++) {
                due("of " + length + " letters", x.subwords(1), numbers[length]);
                int letter = length % 3;
                Check.answer(() -> x.put(1, letter));
            }
        });
    }
}
