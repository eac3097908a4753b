/** Each sentence of the promises 17 to 23, and of what Terms say of signs, laws and MET, that names a boundary. */
public final class EdgesOfWordsTest {
    public static void main(String[] args) {
        signsAreLetters();
        aDayHas60Signs();
        hushTellsHowManyThereWere();
        lawsAreFour();
        aLawsSignsAre0To27();
        aLawHas8Signs();
        noLawTellsHowManyThereWere();
        aLetterIsThatOne();
        aPointIsJustOne();
        aPlusIsOneOrMore();
        aRowIsOneBehindTheOther();
        theFirstWordEndsAtTheLeastPlace();
        theFirstWordInAFullDay();
        noFirstWord();
        wordIsOfALaw();
        silentIsWhatIsNotBroken();
        emptyLawsAreNeverBroken();
        metIsBy0To3More();
        metIsByLettersAToD();
        metEndsWithTheLetter();
        metBreaksNoLawThatIsNotSoYet();
        metMayBreakWhatIsBroken();
        metIsTheFirstOfTheFewest();
        metSignsAreAskedFrom0();
        metIsForALetter();
        metOfAFullDay();
        Check.end();
    }

    /** "SIGNS of a DAY are letters a .. z": "0 a .. 25 z"; "BAD". */
    private static void signsAreLetters() {
        NettleShirts x = new NettleShirts();
        Edge.bad("sign -1", x, () -> x.sign(-1));
        Edge.fine("a", x, () -> x.sign(0), 1);
        Edge.fine("b", x, () -> x.sign(1), 2);
        Edge.fine("y", x, () -> x.sign(24), 3);
        Edge.fine("z", x, () -> x.sign(25), 4);
        Edge.bad("sign 26", x, () -> x.sign(26));
        Edge.bad("sign 27", x, () -> x.sign(27));
        for (int far : Edge.far()) {
            Edge.bad("sign " + far, x, () -> x.sign(far));
        }
        Check.due("four signs", x.count(4), 4);
        Check.law(x, 0, "abyz");
        Check.due("those four", x.word(0), 3);
    }

    /** "60 at most"; "FULL: 60." */
    private static void aDayHas60Signs() {
        NettleShirts x = new NettleShirts();
        for (int k = 1; k <= 58; k++) {
            Check.due("sign " + k, x.sign(0), k);
        }
        Edge.fine("the 59th", x, () -> x.sign(1), 59);
        Edge.fine("the 60th", x, () -> x.sign(2), 60);
        Edge.full("a 61st", x, () -> x.sign(3));
        Edge.bad("BAD ahead of FULL", x, () -> x.sign(26));
        Check.due("hushed", x.hush(), 60);
        Edge.fine("room again", x, () -> x.sign(3), 1);
    }

    /** "No SIGNS: how many there were." */
    private static void hushTellsHowManyThereWere() {
        NettleShirts x = new NettleShirts();
        Check.law(x, 2, "a");
        Edge.fine("none", x, () -> x.hush(), 0);
        Check.signs(x, "a");
        Edge.fine("one", x, () -> x.hush(), 1);
        Edge.fine("none again", x, () -> x.hush(), 0);
        Check.due("no signs", x.count(4), 0);
        Check.due("nothing is broken", x.silent(), 15);
        Check.due("laws stay", x.noLaw(2), 1);
    }

    /** "LAWS 0 .. 3"; "BAD". */
    private static void lawsAreFour() {
        NettleShirts x = new NettleShirts();
        for (int i = 0; i <= 3; i++) {
            int law = i;
            Edge.fine("law " + i, x, () -> x.law(law, law), 1);
        }
        Check.signs(x, "abcd");
        for (int i = 0; i <= 3; i++) {
            int law = i;
            Edge.fine("word " + i, x, () -> x.word(law), i);
            Edge.fine("noLaw " + i, x, () -> x.noLaw(law), 1);
        }
        for (int i : new int[] {-1, 4}) {
            Edge.bad("law " + i, x, () -> x.law(i, 0));
            Edge.bad("noLaw " + i, x, () -> x.noLaw(i));
        }
        for (int far : Edge.far()) {
            Edge.bad("law " + far, x, () -> x.law(far, 0));
            Edge.bad("noLaw " + far, x, () -> x.noLaw(far));
        }
    }

    /** "0 .. 25 a letter, 26 . , 27 +"; "BAD". */
    private static void aLawsSignsAre0To27() {
        NettleShirts x = new NettleShirts();
        Edge.bad("law sign -1", x, () -> x.law(0, -1));
        Edge.fine("a", x, () -> x.law(0, 0), 1);
        Edge.fine("z", x, () -> x.law(0, 25), 2);
        Edge.fine(".", x, () -> x.law(0, 26), 3);
        Edge.fine("+", x, () -> x.law(0, 27), 4);
        Edge.fine("b", x, () -> x.law(0, 1), 5);
        Edge.bad("law sign 28", x, () -> x.law(0, 28));
        for (int far : Edge.far()) {
            Edge.bad("law sign " + far, x, () -> x.law(0, far));
        }
        Check.signs(x, "azzb");
        Check.due("one for . but none for +", x.word(0), -1);
        x.hush();
        Check.signs(x, "azxyyb");
        Check.due("one for . and two for +", x.word(0), 5);
    }

    /** "patterns of 1 to 8"; "FULL: 8." */
    private static void aLawHas8Signs() {
        NettleShirts x = new NettleShirts();
        for (int k = 1; k <= 6; k++) {
            Check.due("law sign " + k, x.law(1, k), k);
        }
        Edge.fine("the seventh", x, () -> x.law(1, 7), 7);
        Edge.fine("the eighth", x, () -> x.law(1, 8), 8);
        Edge.full("a ninth", x, () -> x.law(1, 9));
        Edge.bad("BAD ahead of FULL", x, () -> x.law(1, 28));
        Edge.fine("another law has room", x, () -> x.law(2, 1), 1);
        Edge.fine("the one ahead of it too", x, () -> x.law(0, 1), 1);
        Check.signs(x, "bcdefghi");
        Check.due("all eight are of it", x.word(1), 7);
        x.hush();
        Check.signs(x, "bcdefghj");
        Check.due("the eighth as well", x.word(1), -1);
        Check.due("emptied", x.noLaw(1), 8);
        Edge.fine("room again", x, () -> x.law(1, 0), 1);
    }

    /** "A LAW is empty: how many signs it had." */
    private static void noLawTellsHowManyThereWere() {
        NettleShirts x = new NettleShirts();
        Edge.fine("none", x, () -> x.noLaw(0), 0);
        Check.law(x, 0, "a");
        Edge.fine("one", x, () -> x.noLaw(0), 1);
        Edge.fine("none again", x, () -> x.noLaw(0), 0);
    }

    private static void first(String law, String signs, int due) {
        NettleShirts x = new NettleShirts();
        Check.law(x, 0, law);
        Check.signs(x, signs);
        String what = law + " in " + signs;
        Edge.fine(what, x, () -> x.word(0), due);
        Edge.fine(what + ", silent", x, () -> x.silent(), due == -1 ? 15 : 14);
    }

    /** "a letter (that)". */
    private static void aLetterIsThatOne() {
        first("b", "a", -1);
        first("b", "b", 0);
        first("b", "c", -1);
        first("a", "a", 0);
        first("z", "z", 0);
        first("z", "y", -1);
    }

    /** ". (any one)". */
    private static void aPointIsJustOne() {
        first("a.b", "ab", -1);
        first("a.b", "acb", 2);
        first("a.b", "accb", -1);
        first(".", "", -1);
        first(".", "q", 0);
        first("..", "q", -1);
        first("..", "qq", 1);
        first("........", "abcdefg", -1);
        first("........", "abcdefgh", 7);
    }

    /** "+ (one or more of any)". */
    private static void aPlusIsOneOrMore() {
        first("a+b", "ab", -1);
        first("a+b", "acb", 2);
        first("a+b", "accb", 3);
        first("a+b", "acdeb", 4);
        first("+", "", -1);
        first("+", "q", 0);
        first("a+", "a", -1);
        first("a+", "ab", 1);
        first("+a", "a", -1);
        first("+a", "ba", 1);
        first("++", "q", -1);
        first("++", "qq", 1);
        first("+.", "q", -1);
        first("+.", "qq", 1);
        first("++++++++", "abcdefg", -1);
        first("++++++++", "abcdefgh", 7);
    }

    /** "a row of SIGNS, one behind the other, is as the pattern from first to last". */
    private static void aRowIsOneBehindTheOther() {
        first("ab", "acb", -1);
        first("ab", "ba", -1);
        first("ab", "aab", 2);
        first("aab", "abaab", 4);
        first("aa", "aba", -1);
        first("abc", "ababc", 4);
        first("a.a", "abba", -1);
        first("a.a", "aaa", 2);
    }

    /** "the least place at which such a row ends (its last SIGN)". */
    private static void theFirstWordEndsAtTheLeastPlace() {
        first("a", "abaa", 0);
        first("a", "bbaa", 2);
        first("a+a", "aaaaa", 2);
        first("a+b", "aabb", 2);
        first("+b", "bb", 1);
        first("b+", "abcc", 2);
    }

    /** The first and the last place of a day of 59 and of 60. */
    private static void theFirstWordInAFullDay() {
        first("b", "b" + "a".repeat(59), 0);
        first("b", "a".repeat(58) + "b", 58);
        first("b", "a".repeat(59) + "b", 59);
        first("c+b", "c" + "a".repeat(58) + "b", 59);
        first("c+b", "c" + "a".repeat(57) + "b", 58);
        first("b", "a".repeat(60), -1);
    }

    /** "none". */
    private static void noFirstWord() {
        first("a", "", -1);
        first("abcdefgh", "abcdefg", -1);
        first("abcdefgh", "abcdefgh", 7);
        first("abcdefgh", "abcdefghi", 7);
    }

    /** "FIRST WORD. NONE. BAD." */
    private static void wordIsOfALaw() {
        NettleShirts x = new NettleShirts();
        Check.signs(x, "a");
        for (int i = 0; i <= 3; i++) {
            int law = i;
            Edge.fine("word by the empty law " + i, x, () -> x.word(law), -1);
        }
        Edge.bad("word -1", x, () -> x.word(-1));
        Edge.bad("word 4", x, () -> x.word(4));
        for (int far : Edge.far()) {
            Edge.bad("word " + far, x, () -> x.word(far));
        }
    }

    /** "SILENT: LAWS (bits ..) that are not broken." */
    private static void silentIsWhatIsNotBroken() {
        for (int broken = 0; broken <= 15; broken++) {
            NettleShirts x = new NettleShirts();
            for (int i = 0; i <= 3; i++) {
                Check.law(x, i, (broken >> i & 1) == 1 ? "ab" : "ba");
            }
            Check.signs(x, "ab");
            Edge.fine("broken " + broken, x, () -> x.silent(), 15 - broken);
        }
    }

    /** "empty ones are never broken". */
    private static void emptyLawsAreNeverBroken() {
        NettleShirts x = new NettleShirts();
        Edge.fine("no laws, no signs", x, () -> x.silent(), 15);
        Check.signs(x, "a");
        Edge.fine("no laws, a sign", x, () -> x.silent(), 15);
        Check.law(x, 3, "+");
        Edge.fine("one law of one sign", x, () -> x.silent(), 7);
        x.noLaw(3);
        Edge.fine("empty again", x, () -> x.silent(), 15);
    }

    /** What MET tells: how many, and each of them; the places behind them are not so many. */
    private static void met(String what, NettleShirts x, int c, String more) {
        Edge.fine(what + ": how many", x, () -> x.met(c, -1), more.length());
        for (int k = 0; k < more.length(); k++) {
            int i = k;
            Edge.fine(what + ": sign " + k, x, () -> x.met(c, i), more.charAt(k) - 'a');
        }
        Edge.fine(what + ": one more", x, () -> x.met(c, more.length()), -5);
        Edge.fine(what + ": two more", x, () -> x.met(c, more.length() + 1), -5);
    }

    private static void notMet(String what, NettleShirts x, int c) {
        for (int i : new int[] {-1, 0, 3, 4, Integer.MAX_VALUE}) {
            Edge.fine(what + ", " + i, x, () -> x.met(c, i), -1);
        }
    }

    /** "the fewest more SIGNS (0 .. 3)". */
    private static void metIsBy0To3More() {
        NettleShirts x = new NettleShirts();
        Check.signs(x, "z");
        met("none needed", x, 25, "");
        met("one", x, 1, "b");
        Check.law(x, 0, "zb");
        met("two", x, 1, "ab");
        Check.law(x, 1, "z.b");
        met("three", x, 1, "aab");
        Check.law(x, 2, "z..b");
        notMet("four would be needed", x, 1);
        met("another letter is not", x, 2, "c");
    }

    /** "of a .. d". */
    private static void metIsByLettersAToD() {
        NettleShirts x = new NettleShirts();
        met("a", x, 0, "a");
        met("d", x, 3, "d");
        notMet("e", x, 4);
        notMet("z", x, 25);
        Check.law(x, 0, "zd");
        Check.law(x, 1, "ad");
        Check.law(x, 2, "bd");
        Check.law(x, 3, "cd");
        Check.signs(x, "z");
        notMet("e ahead of it would do", x, 3);
        x.noLaw(3);
        met("c ahead of it does", x, 3, "cd");
    }

    /** "of which the last one (of all SIGNS then) is a told letter". */
    private static void metEndsWithTheLetter() {
        NettleShirts x = new NettleShirts();
        met("no signs, so one more", x, 0, "a");
        for (int c = 0; c <= 25; c++) {
            NettleShirts y = new NettleShirts();
            y.sign(c);
            met("it is the last already", y, c, "");
            y.sign(c == 0 ? 1 : 0);
            if (c <= 3) {
                met("it is the last but one", y, c, String.valueOf((char) ('a' + c)));
            } else {
                notMet("it is the last but one", y, c);
            }
        }
    }

    /** "by which no LAW is broken that is not so yet". */
    private static void metBreaksNoLawThatIsNotSoYet() {
        for (int i = 0; i <= 3; i++) {
            NettleShirts x = new NettleShirts();
            Check.signs(x, "c");
            Check.law(x, i, "a");
            notMet("a breaks law " + i, x, 0);
            met("b does not", x, 1, "b");
            x.noLaw(i);
            Check.law(x, i, "cb");
            met("b behind c would", x, 1, "ab");
        }
        NettleShirts y = new NettleShirts();
        Check.signs(y, "xay");
        Check.law(y, 0, "x+b");
        Check.law(y, 1, "yc");
        notMet("by signs long ago", y, 1);
        met("by the last sign", y, 2, "ac");
        Check.law(y, 2, "a...");
        met("the last of more signs may not be so far", y, 0, "a");
        notMet("nor the second one", y, 2);
    }

    /** A law that is broken already binds no more. */
    private static void metMayBreakWhatIsBroken() {
        NettleShirts x = new NettleShirts();
        Check.law(x, 2, "a");
        notMet("not broken yet", x, 0);
        Check.signs(x, "ab");
        met("broken", x, 0, "a");
        x.hush();
        notMet("hushed", x, 0);
        Check.law(x, 3, "+");
        notMet("nothing may be said", x, 1);
        Check.signs(x, "c");
        met("it is said", x, 1, "b");
    }

    /** "of the first such ones (a ahead of b, ..)". */
    private static void metIsTheFirstOfTheFewest() {
        NettleShirts x = new NettleShirts();
        Check.signs(x, "z");
        Check.law(x, 0, "zd");
        met("a first", x, 3, "ad");
        Check.law(x, 1, "ad");
        met("then b", x, 3, "bd");
        Check.law(x, 2, "zb");
        met("then c", x, 3, "cd");
        Check.law(x, 3, "cd");
        met("then three", x, 3, "abd");
        x.noLaw(1);
        met("fewer are ahead of the first", x, 3, "ad");
    }

    /** "how many (i = NONE), the i-th SIGN. -5: not so many. NONE: none. BAD: -10." */
    private static void metSignsAreAskedFrom0() {
        NettleShirts x = new NettleShirts();
        Edge.badAsked("below NONE", x, () -> x.met(0, -2));
        Edge.badAsked("the least", x, () -> x.met(0, Integer.MIN_VALUE));
        Edge.badAsked("below NONE, where there is none", x, () -> x.met(4, -2));
        Edge.fine("the greatest", x, () -> x.met(0, Integer.MAX_VALUE), -5);
    }

    /** "MET by a letter (0 .. 25)". */
    private static void metIsForALetter() {
        NettleShirts x = new NettleShirts();
        Edge.badAsked("met -1", x, () -> x.met(-1, -1));
        Edge.fine("met 0", x, () -> x.met(0, -1), 1);
        Edge.fine("met 24", x, () -> x.met(24, -1), -1);
        Edge.fine("met 25", x, () -> x.met(25, -1), -1);
        Edge.badAsked("met 26", x, () -> x.met(26, -1));
        for (int far : Edge.far()) {
            Edge.badAsked("met " + far, x, () -> x.met(far, -1));
        }
    }

    /** Nothing is told of MET's more signs and the 60 of a day, so a full day is answered as another. */
    private static void metOfAFullDay() {
        NettleShirts x = new NettleShirts();
        Check.signs(x, "z".repeat(60));
        met("its last sign", x, 25, "");
        met("another", x, 1, "b");
        Check.law(x, 0, "zb");
        met("two", x, 1, "ab");
    }
}
