/** Promises 17 to 23: sign, hush, law, noLaw, word, silent, met. */
public final class WordsTest {
    public static void main(String[] args) {
        signs();
        laws();
        firstWords();
        silence();
        met();
        metIsTheFirstOfTheFewest();
        metByTheDayAsItIs();
        badNumbers();
        Check.end();
    }

    private static void signs() {
        NettleShirts x = new NettleShirts();
        Check.due("nothing to hush", x.hush(), 0);
        for (int k = 0; k < 60; k++) {
            Check.due("sign " + k, x.sign(k % 26), k + 1);
        }
        Check.due("a 61st", x.sign(0), -4);
        Check.due("a bad 61st", x.sign(26), -2);
        Check.due("FULL", x.status(2), 1);
        Check.due("hush", x.hush(), 60);
        Check.due("no signs", x.count(4), 0);
        Check.due("anew", x.sign(25), 1);
    }

    private static void laws() {
        NettleShirts x = new NettleShirts();
        for (int k = 0; k < 8; k++) {
            Check.due("law sign " + k, x.law(3, 20 + k), k + 1);
        }
        Check.due("a ninth", x.law(3, 0), -4);
        Check.due("another law", x.law(2, 27), 1);
        Check.due("no law 3", x.noLaw(3), 8);
        Check.due("it is empty", x.noLaw(3), 0);
        Check.due("the other stays", x.noLaw(2), 1);
    }

    private static int first(String law, String signs) {
        NettleShirts x = new NettleShirts();
        Check.law(x, 1, law);
        Check.signs(x, signs);
        return x.word(1);
    }

    private static void firstWords() {
        Check.due("no signs", first("a", ""), -1);
        Check.due("no law", first("", "abc"), -1);
        Check.due("a in a", first("a", "a"), 0);
        Check.due("c in abc", first("c", "abc"), 2);
        Check.due("bc in abbcbc", first("bc", "abbcbc"), 3);
        Check.due(". in z", first(".", "z"), 0);
        Check.due("+ in z", first("+", "z"), 0);
        Check.due("... in ab", first("...", "ab"), -1);
        Check.due("... in abc", first("...", "abc"), 2);
        Check.due("a.c in abbc", first("a.c", "abbc"), -1);
        Check.due("a+c in abbc", first("a+c", "abbc"), 3);
        Check.due("a+c in ac", first("a+c", "ac"), -1);
        Check.due("a+c in acc", first("a+c", "acc"), 2);
        Check.due("a+a in aba", first("a+a", "aba"), 2);
        Check.due("+++ in abc", first("+++", "abc"), 2);
        Check.due("+b in bab", first("+b", "bab"), 2);
        Check.due("b+ in ab", first("b+", "ab"), -1);
        Check.due("b+ in abc", first("b+", "abc"), 2);
        Check.due("aab in aaab", first("aab", "aaab"), 3);
        Check.due("a+b.+c in aabbcc", first("a+b.+c", "aabbxcc"), 5);
        Check.due("abcdefgh", first("abcdefgh", "aabcdefgh"), 8);
        Check.due("++++++++ in eight", first("++++++++", "abcdabcd"), 7);
        Check.due("from first to last of a long day", first("a+z", "a" + "b".repeat(58) + "z"), 59);
    }

    private static void silence() {
        NettleShirts x = new NettleShirts();
        Check.law(x, 0, "ab");
        Check.law(x, 1, "b");
        Check.law(x, 3, "+c");
        Check.due("nothing said", x.silent(), 15);
        Check.signs(x, "a");
        Check.due("a", x.silent(), 15);
        Check.signs(x, "b");
        Check.due("ab", x.silent(), 12);
        Check.signs(x, "c");
        Check.due("abc", x.silent(), 4);
        x.noLaw(1);
        Check.due("an empty law is not broken", x.silent(), 6);
        x.hush();
        Check.due("hushed", x.silent(), 15);
    }

    private static void met() {
        NettleShirts x = new NettleShirts();
        Check.due("d", x.met(3, -1), 1);
        Check.due("d itself", x.met(3, 0), 3);
        Check.due("a second", x.met(3, 1), -5);
        Check.due("e is not of a .. d", x.met(4, -1), -1);
        Check.due("nor by its place", x.met(4, 0), -1);
        Check.signs(x, "e");
        Check.due("e is the last now", x.met(4, -1), 0);
        Check.due("without more", x.met(4, 0), -5);
        Check.law(x, 0, "+b");
        Check.due("b would break it", x.met(1, -1), -1);
        Check.law(x, 1, "e");
        Check.due("a broken law does not bind", x.met(0, -1), 1);
        Check.signs(x, "b");
        Check.due("broken meanwhile", x.met(1, -1), 0);
        Check.signs(x, "a");
        Check.due("so b is free", x.met(1, -1), 1);
    }

    private static void metIsTheFirstOfTheFewest() {
        NettleShirts x = new NettleShirts();
        Check.signs(x, "a");
        Check.law(x, 0, "ab");
        Check.due("a may not be ahead of b", x.met(1, -1), 2);
        Check.due("so c is", x.met(1, 0), 2);
        Check.due("b is last", x.met(1, 1), 1);
        Check.due("no third", x.met(1, 2), -5);
        Check.law(x, 1, "ac");
        Check.law(x, 2, "db");
        Check.due("neither c behind a, nor b behind d", x.met(1, -1), 3);
        Check.due("d first", x.met(1, 0), 3);
        Check.due("then c", x.met(1, 1), 2);
        Check.due("then b", x.met(1, 2), 1);
        Check.law(x, 3, "cb");
        Check.due("no way is left", x.met(1, -1), -1);
        Check.due("a is met by none", x.met(0, -1), 0);
    }

    private static void metByTheDayAsItIs() {
        NettleShirts x = new NettleShirts();
        Check.law(x, 0, "z+d");
        Check.signs(x, "z");
        Check.due("d behind z, with none between", x.met(3, -1), 1);
        Check.signs(x, "a");
        Check.due("d anywhere behind", x.met(3, -1), -1);
        long h = x.digest();
        x.met(2, 0);
        Check.due("met changes nothing", x.digest(), h);
        NettleShirts y = new NettleShirts();
        Check.signs(y, "z".repeat(60));
        Check.due("a full day still tells", y.met(0, -1), 1);
    }

    private static void badNumbers() {
        NettleShirts x = new NettleShirts();
        int[] edges = {-1, 4, Integer.MAX_VALUE, Integer.MIN_VALUE};
        for (int i : edges) {
            Check.due("law " + i, x.law(i, 0), -2);
            Check.due("noLaw " + i, x.noLaw(i), -2);
            Check.due("word " + i, x.word(i), -2);
        }
        Check.due("law sign -1", x.law(0, -1), -2);
        Check.due("law sign 28", x.law(0, 28), -2);
        Check.due("sign -1", x.sign(-1), -2);
        Check.due("sign 26", x.sign(26), -2);
        Check.due("met -1", x.met(-1, -1), -10);
        Check.due("met 26", x.met(26, -1), -10);
        Check.due("met below none", x.met(0, -2), -10);
        Check.due("met, least", x.met(0, Integer.MIN_VALUE), -10);
        Check.due("all are BAD", x.status(0), 20);
        Check.due("nothing came", x.count(4), 0);
    }
}
