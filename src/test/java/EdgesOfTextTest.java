/** Each sentence of the promises 27 to 29, and of what Terms say of THE LIFE, that names a boundary. */
public final class EdgesOfTextTest {
    public static void main(String[] args) {
        typeTakes1To8Bytes();
        theHighestComesFirst();
        theTextHas200Bytes();
        clearTellsHowManyThereWere();
        anEmptyTextHasNoFault();
        blanksStandBetween();
        blanksAreByte32Alone();
        numbersHave1Or2Figures();
        aThirdFiguresNumber();
        everyItemEndsWithAStop();
        namesAreJustThose();
        plotItems();
        shirtItems();
        chargeAndProofItems();
        lawItems();
        aLawsWordHas8();
        aLawsWordIsAnyWord();
        dayItems();
        aDaysWordHas60();
        aDaysWordIsOfLetters();
        bytesThatBeginNone();
        theFirstFaultIsTold();
        theFaultIsTheTokensFirstByte();
        endsTooEarly();
        aFaultAtTheEndOf200Bytes();
        aFaultIsAheadOfARefusal();
        theFirstRefusedItem();
        lawsAreToldBehindWhatThereIs();
        daysAreToldBehindWhatThereIs();
        itemsAreRefusedAsCallsAre();
        itemsAreAsManyAsThereAre();
        aLifeIsToldAnew();
        aLifeReadTwiceIsTheSame();
        whatWasRefusedIsNotKept();
        whatWasClearedIsNotRead();
        theRestStays();
        aFaultChangesNothing();
        aRefusedItemChangesNothing();
        readIsNeverRefused();
        Check.end();
    }

    private static void reads(String text, int due) {
        NettleShirts x = new NettleShirts();
        Check.type(x, text);
        Edge.fine("read of '" + text + "'", x, () -> x.read(), due);
        Check.due("bytes stay", x.clear(), text.length());
    }

    private static void faultAt(String text, int place) {
        reads(text, -10 - place);
    }

    private static void refusedAt(String text, int item) {
        reads(text, -1000 - item);
    }

    /** "The lowest n (1 .. 8) bytes of v"; "BAD". */
    private static void typeTakes1To8Bytes() {
        NettleShirts x = new NettleShirts();
        Edge.bad("-1 bytes", x, () -> x.type(1, -1));
        Edge.bad("0 bytes", x, () -> x.type(1, 0));
        Edge.fine("1 byte", x, () -> x.type(1, 1), 1);
        Edge.fine("2 bytes", x, () -> x.type(1, 2), 3);
        Edge.fine("7 bytes", x, () -> x.type(1, 7), 10);
        Edge.fine("8 bytes", x, () -> x.type(1, 8), 18);
        Edge.bad("9 bytes", x, () -> x.type(1, 9));
        for (int far : Edge.far()) {
            Edge.bad(far + " bytes", x, () -> x.type(1, far));
        }
        Check.due("what came", x.count(7), 18);
    }

    /** "the highest of them first". */
    private static void theHighestComesFirst() {
        String text = "shirt 7;";
        for (int n = 1; n <= 8; n++) {
            NettleShirts x = new NettleShirts();
            for (int at = 0; at < 8; at += n) {
                int many = Math.min(n, 8 - at);
                long v = 0x5555_5555_5555_5555L;
                for (int k = 0; k < many; k++) {
                    v = v << 8 | text.charAt(at + k);
                }
                x.type(v, many);
            }
            Check.due("read of bytes by " + n, x.read(), 1);
            Check.due("the shirt", x.left(0, 0), 7);
        }
        NettleShirts y = new NettleShirts();
        Check.due("the least", y.type(Long.MIN_VALUE, 8), 8);
        Check.due("the greatest", y.type(Long.MAX_VALUE, 8), 16);
        Check.due("byte 128 begins none", y.read(), -10);
        y.clear();
        y.type(0x7368_6972_7420_31L, 7);
        y.type(-197L, 1);
        Check.due("-197 is byte 59", y.read(), 1);
    }

    /** "a TEXT (200 bytes at most)"; "FULL". */
    private static void theTextHas200Bytes() {
        for (int n = 1; n <= 8; n++) {
            int many = n;
            NettleShirts x = new NettleShirts();
            int room = 200 - n;
            for (int has = 0; has < room; has += Math.min(8, room - has)) {
                x.type(0x2020_2020_2020_2020L, Math.min(8, room - has));
            }
            Check.due("so many ahead of it", x.count(7), room);
            if (n < 8) {
                Edge.full(n + 1 + " bytes to " + room, x, () -> x.type(0, many + 1));
            }
            Edge.fine(n + " bytes to " + room, x, () -> x.type(0x2020_2020_2020_2020L, many), 200);
            Edge.full("one more", x, () -> x.type(0, 1));
            Edge.full("eight more", x, () -> x.type(0, 8));
            Edge.bad("BAD ahead of FULL", x, () -> x.type(0, 9));
            Edge.bad("0 is BAD still", x, () -> x.type(0, 0));
            Check.due("blanks as before", x.read(), 0);
            Check.due("all go", x.clear(), 200);
        }
        NettleShirts y = new NettleShirts();
        for (int k = 0; k < 24; k++) {
            y.type(0, 8);
        }
        y.type(0, 1);
        Edge.full("193 and 8", y, () -> y.type(0, 8));
        Edge.fine("193 and 6", y, () -> y.type(0, 6), 199);
        Edge.full("199 and 2", y, () -> y.type(0, 2));
        Edge.fine("199 and 1", y, () -> y.type(0, 1), 200);
    }

    /** "THE TEXT is empty: how many it had." */
    private static void clearTellsHowManyThereWere() {
        NettleShirts x = new NettleShirts();
        Edge.fine("none", x, () -> x.clear(), 0);
        x.type(0, 1);
        Edge.fine("one", x, () -> x.clear(), 1);
        Edge.fine("none again", x, () -> x.clear(), 0);
        Check.due("none", x.count(7), 0);
        Edge.fine("an empty text is read", x, () -> x.read(), 0);
    }

    /** "(an empty one: none)". */
    private static void anEmptyTextHasNoFault() {
        reads("", 0);
        faultAt("d", 0);
        reads(" ", 0);
        reads("day a;", 1);
    }

    /** "blanks (32) between". */
    private static void blanksStandBetween() {
        reads(" day a;", 1);
        reads("day  a;", 1);
        reads("day a ;", 1);
        reads("day a; ", 1);
        reads("   plot   3   4   ;   law   0   a.+   ;   ", 2);
        reads("plot3 4;law0a.+;shirt12;day a;day b;", 5);
        faultAt("daya;", 0);
        faultAt("d ay a;", 0);
        faultAt("plot 1 1 1;", 9);
        faultAt("plot 11;", 7);
        faultAt("law 0 a b;", 8);
        faultAt("day a b;", 6);
    }

    /** Byte 32, and no byte beside it. */
    private static void blanksAreByte32Alone() {
        for (int b : new int[] {0, 9, 10, 13, 31, 33, 127, 160, 255}) {
            faultAt("day" + (char) b + "a;", 3);
            faultAt("day a;" + (char) b, 6);
        }
        reads("day" + (char) 32 + "a;", 1);
    }

    /** "figures (1 or 2 are one number)". */
    private static void numbersHave1Or2Figures() {
        reads("shirt 1;", 1);
        reads("shirt 01;", 1);
        reads("shirt 12;", 1);
        reads("plot 05 09;", 1);
        reads("plot 0 0;", 1);
        reads("plot 00 00;", 1);
        faultAt("shirt ;", 6);
        NettleShirts x = new NettleShirts();
        Check.type(x, "plot 05 19;shirt 09;");
        Check.due("read", x.read(), 2);
        Check.due("19 nettles", x.nettles(0), 19);
        Check.due("9 parts", x.left(0, 0), 9);
        for (int b : new int[] {'0' - 1, '9' + 1}) {
            faultAt("shirt 1" + (char) b + ";", 7);
            faultAt("shirt " + (char) b + ";", 6);
        }
    }

    /** "a third figure's number": at the number's first byte. */
    private static void aThirdFiguresNumber() {
        faultAt("shirt 001;", 6);
        faultAt("shirt 123;", 6);
        faultAt("plot 100 1;", 5);
        faultAt("plot 1 100;", 7);
        faultAt("shirt 0000;", 6);
        faultAt("shirt " + "9".repeat(60) + ";", 6);
        faultAt("shirt 123", 6);
        faultAt("123", 0);
        faultAt("law 000 a;", 4);
    }

    /** "of ITEMS, each ended by ;". */
    private static void everyItemEndsWithAStop() {
        reads("shirt 1;shirt 2;", 2);
        faultAt("shirt 1 shirt 2;", 8);
        faultAt(";", 0);
        faultAt("shirt 1;;", 8);
        faultAt("shirt 1;shirt 2", 15);
    }

    /** "a word that is none". */
    private static void namesAreJustThose() {
        for (String name : new String[] {"plot", "shirt", "charge", "proof", "law", "day"}) {
            faultAt(name.substring(1) + " 1;", 0);
            faultAt(name.substring(0, name.length() - 1) + " 1;", 0);
            faultAt(name + "s 1;", 0);
            faultAt(name + ". 1;", 0);
            faultAt("+" + name + " 1;", 0);
            faultAt("shirt 1; x" + name + " 1;", 9);
            for (int k = 0; k < name.length(); k++) {
                String other = name.substring(0, k) + "q" + name.substring(k + 1);
                faultAt(other + " 1 a;", 0);
            }
            faultAt(name + name + " 1;", 0);
        }
        faultAt("shirt shirt;", 6);
        reads("day day;", 1);
        faultAt("word 1;", 0);
        faultAt(". 1;", 0);
        faultAt("1 plot;", 0);
    }

    /** "plot KIND n;". */
    private static void plotItems() {
        reads("plot 0 0;", 1);
        reads("plot 5 20;", 1);
        refusedAt("plot 6 20;", 0);
        refusedAt("plot 5 21;", 0);
        refusedAt("plot 99 99;", 0);
        faultAt("plot;", 4);
        faultAt("plot 1;", 6);
        faultAt("plot 1 2 3;", 9);
        faultAt("plot a 2;", 5);
        faultAt("plot 1 a;", 7);
        reads("plot 1 2;plot 1 2;plot 1 2;", 3);
        refusedAt("plot 1 2;plot 1 2;plot 1 2;plot 1 2;", 3);
    }

    /** "shirt n;". */
    private static void shirtItems() {
        refusedAt("shirt 0;", 0);
        reads("shirt 1;", 1);
        reads("shirt 12;", 1);
        refusedAt("shirt 13;", 0);
        faultAt("shirt;", 5);
        faultAt("shirt 1 2;", 8);
        faultAt("shirt a;", 6);
        reads("shirt 1;shirt 1;shirt 1;shirt 1;", 4);
        refusedAt("shirt 1;shirt 1;shirt 1;shirt 1;shirt 1;", 4);
    }

    /** "charge w; proof w;". */
    private static void chargeAndProofItems() {
        for (String name : new String[] {"charge", "proof"}) {
            int end = name.length();
            refusedAt(name + " 0;", 0);
            reads(name + " 1;", 1);
            reads(name + " 9;", 1);
            refusedAt(name + " 10;", 0);
            faultAt(name + ";", end);
            faultAt(name + " 1 2;", end + 3);
            faultAt(name + " a;", end + 1);
            String item = name + " 1;";
            reads(item.repeat(4), 4);
            refusedAt(item.repeat(5), 4);
        }
        NettleShirts x = new NettleShirts();
        Check.type(x, "charge 3;proof 2;charge 1;");
        Check.due("read", x.read(), 3);
        Check.due("charges", x.count(5), 2);
        Check.due("proofs", x.count(6), 1);
        Check.due("the charge of 3 ends it", x.lasts(3, 0), 1);
        Check.due("it does not by 4", x.lasts(4, 0), 3);
    }

    /** "law i and one word". */
    private static void lawItems() {
        reads("law 0 a;", 1);
        reads("law 3 a;", 1);
        refusedAt("law 4 a;", 0);
        refusedAt("law 99 a;", 0);
        faultAt("law;", 3);
        faultAt("law 0;", 5);
        faultAt("law a;", 4);
        faultAt("law 0 1;", 6);
        faultAt("law 0 a 1;", 8);
        faultAt("law 0 a b;", 8);
    }

    /** "of letters, . and + (8 at most)"; "too long". */
    private static void aLawsWordHas8() {
        reads("law 0 a;", 1);
        reads("law 0 abcdefg;", 1);
        reads("law 0 abcdefgh;", 1);
        faultAt("law 0 abcdefghi;", 6);
        faultAt("law 0 abcdefghi", 6);
        faultAt("law 0 ..++..++.;", 6);
        faultAt("law 0 " + "a".repeat(180) + ";", 6);
    }

    /** Each letter, the point and the plus; the bytes beside them are none of it. */
    private static void aLawsWordIsAnyWord() {
        reads("law 0 abcdefgh;law 1 ijklmnop;law 2 qrstuvwx;law 3 yz.+;", 4);
        for (int b : new int[] {'a' - 1, 'z' + 1, '.' - 1, '.' + 1, '+' - 1, '+' + 1, 'A', 'Z'}) {
            faultAt("law 0 a" + (char) b + ";", 7);
            faultAt("law 0 " + (char) b + ";", 6);
        }
        NettleShirts x = new NettleShirts();
        Check.type(x, "law 2 a.z+b;day aazxyb;");
        Check.due("read", x.read(), 2);
        Check.due("as law(2, ..) tells it", x.word(2), 5);
        Check.due("five signs", x.noLaw(2), 5);
    }

    /** "day and one word". */
    private static void dayItems() {
        reads("day a;", 1);
        faultAt("day;", 3);
        faultAt("day 1;", 4);
        faultAt("day a b;", 6);
        faultAt("day a 1;", 6);
        NettleShirts x = new NettleShirts();
        Check.type(x, "day az;");
        Check.due("read", x.read(), 1);
        Check.law(x, 0, "az");
        Check.due("its signs", x.word(0), 1);
        Check.due("two of them", x.hush(), 2);
    }

    /** "(60 at most ..)"; "too long". */
    private static void aDaysWordHas60() {
        reads("day " + "a".repeat(59) + ";", 1);
        reads("day " + "a".repeat(60) + ";", 1);
        faultAt("day " + "a".repeat(61) + ";", 4);
        faultAt("day " + "a".repeat(61), 4);
        faultAt("day " + "a".repeat(196), 4);
    }

    /** "one word of letters": "or with another sign". */
    private static void aDaysWordIsOfLetters() {
        faultAt("day .;", 4);
        faultAt("day +;", 4);
        faultAt("day ab.;", 4);
        faultAt("day a+b;", 4);
        faultAt("day a.b", 4);
        reads("day abcdefghijklmnopqrstuvwxyz;", 1);
    }

    /** "a byte that begins none". */
    private static void bytesThatBeginNone() {
        for (int b = 0; b < 256; b++) {
            boolean isWord = b >= 'a' && b <= 'z' || b == '.' || b == '+';
            boolean isFigure = b >= '0' && b <= '9';
            String text = "day ab" + (char) b + ";";
            if (b == ' ') {
                reads(text, 1);
            } else if (isWord) {
                reads(text, b == '.' || b == '+' ? -14 : 1);
            } else if (b == ';') {
                faultAt(text, 7);
            } else {
                faultAt(text, 6);
            }
            if (!isWord && !isFigure && b != ' ') {
                faultAt("shirt" + (char) b + "1;", 5);
            }
        }
    }

    /** "the first TOKEN that can not stand there". */
    private static void theFirstFaultIsTold() {
        faultAt("plot x y;", 5);
        faultAt("plot 1 y; !", 7);
        faultAt("day a; shirt ! 100;", 13);
        faultAt("day a; shirt 100 !;", 13);
        faultAt("day a.; law 0 abcdefghi;", 4);
        faultAt("law 0 abcdefghi; day a.;", 6);
    }

    /** "the place of the first byte of the first TOKEN". */
    private static void theFaultIsTheTokensFirstByte() {
        for (int blanks = 0; blanks <= 3; blanks++) {
            String gap = " ".repeat(blanks);
            faultAt(gap + "oh 1;", blanks);
            faultAt("day a;" + gap + "oh 1;", 6 + blanks);
            faultAt("shirt " + gap + "100;", 6 + blanks);
            faultAt("day " + gap + "a.b;", 4 + blanks);
        }
    }

    /** "the TEXT's length, if it ends too early". */
    private static void endsTooEarly() {
        for (String item : new String[] {"plot 1 2;", "shirt 12;", "charge 3;", "proof 4;", "law 2 ab;", "day abc;"}) {
            String name = item.substring(0, item.indexOf(' '));
            for (int length = 1; length < item.length(); length++) {
                String text = item.substring(0, length);
                faultAt(text, length < name.length() ? 0 : length);
                faultAt("day a;" + text, 6 + (length < name.length() ? 0 : length));
                faultAt(text + " ", length < name.length() ? 0 : length + 1);
            }
            reads(item, 1);
        }
    }

    /** The last places of a text of 199 and of 200. */
    private static void aFaultAtTheEndOf200Bytes() {
        faultAt(" ".repeat(198) + "x", 198);
        faultAt(" ".repeat(199) + "x", 199);
        faultAt(" ".repeat(199) + ";", 199);
        faultAt("day" + " ".repeat(196), 199);
        faultAt("day" + " ".repeat(197), 200);
        faultAt(" ".repeat(197) + "day", 200);
        faultAt(" ".repeat(198) + "99", 198);
        faultAt(" ".repeat(195) + "day a", 200);
        faultAt(" ".repeat(193) + "law 0 a", 200);
        faultAt(" ".repeat(193) + "shirt 1", 200);
        reads(" ".repeat(194) + "day a;", 1);
        reads("day a;" + " ".repeat(194), 1);
        reads(" ".repeat(200), 0);
    }

    /** "A LIFE without a FAULT is told": one with a fault is not, whatever would be refused. */
    private static void aFaultIsAheadOfARefusal() {
        refusedAt("shirt 13;day a;", 0);
        faultAt("shirt 13;day a", 14);
        faultAt("shirt 13;day a.;", 13);
    }

    /** "the first ITEM (0 on) that is refused". */
    private static void theFirstRefusedItem() {
        refusedAt("shirt 13;", 0);
        refusedAt("day a;shirt 13;", 1);
        refusedAt("day a;day a;shirt 13;shirt 13;plot 6 0;", 2);
        refusedAt("day a;".repeat(31) + "plot 9 9;", 31);
        reads("day a;".repeat(31) + "plot 0 9;", 32);
    }

    /** A law's word goes behind the signs of that law, as its call's sign does; "FULL: 8." */
    private static void lawsAreToldBehindWhatThereIs() {
        reads("law 0 abcd;law 0 abc;", 2);
        reads("law 0 abcd;law 0 abcd;", 2);
        refusedAt("law 0 abcd;law 0 abcde;", 1);
        refusedAt("law 0 abcdefgh;law 0 a;", 1);
        reads("law 0 abcdefgh;law 1 a;", 2);
        NettleShirts x = new NettleShirts();
        Check.law(x, 0, "abcdefgh");
        Check.type(x, "law 0 ab;day abc;law 0 c;");
        Check.due("what was there is told anew", x.read(), 3);
        Check.due("abc in abc", x.word(0), 2);
    }

    /** "behind what there is": 60 in all. */
    private static void daysAreToldBehindWhatThereIs() {
        String some = "day " + "a".repeat(30) + ";";
        reads(some + "day " + "b".repeat(29) + ";", 2);
        reads(some + "day " + "b".repeat(30) + ";", 2);
        refusedAt(some + "day " + "b".repeat(31) + ";", 1);
        refusedAt("day " + "a".repeat(60) + ";day a;", 1);
        NettleShirts x = new NettleShirts();
        Check.signs(x, "z".repeat(60));
        Check.type(x, "day ab;law 0 abc;day c;");
        Check.due("what was there is told anew", x.read(), 3);
        Check.due("abc in abc", x.word(0), 2);
        Check.due("three signs", x.count(4), 3);
    }

    /** "refused (as its call is)": each reason, told by one number. */
    private static void itemsAreRefusedAsCallsAre() {
        refusedAt("plot 6 1;", 0);
        refusedAt("plot 0 1;plot 0 1;plot 0 1;plot 0 1;", 3);
        refusedAt("law 0 abcdefgh;law 4 abcdefgh;", 1);
        refusedAt("charge 1;proof 1;charge 1;proof 1;charge 1;proof 1;charge 1;proof 1;charge 1;", 8);
    }

    /** "how many ITEMS". */
    private static void itemsAreAsManyAsThereAre() {
        for (int items = 0; items <= 33; items++) {
            reads("day a;".repeat(items), items);
        }
    }

    /** "is told anew by these alone". */
    private static void aLifeIsToldAnew() {
        NettleShirts x = muchToldAlready();
        Check.type(x, "plot 4 6;");
        Check.due("read", x.read(), 1);
        int[] counts = {1, 0, 0, 0, 0, 0, 0, 9};
        for (int what = 0; what <= 7; what++) {
            Check.due("count " + what, x.count(what), counts[what]);
        }
        Check.due("stock", x.has(0), 0);
        Check.due("hurt", x.has(1), 0);
        Check.due("told for bare", x.told(0, 0), 0);
        Edge.no("no night may be undone", x, () -> x.undo());
        for (int i = 0; i <= 3; i++) {
            Check.due("law " + i, x.noLaw(i), 0);
        }
        Check.due("night 0", x.night(0), 3);
        Check.due("night 1", x.night(0), 3);
        Check.due("night 2 is watched, as from 0 on", x.night(0), 0);
        NettleShirts y = muchToldAlready();
        Check.due("an empty text tells nothing", y.read(), 0);
        for (int what = 0; what <= 7; what++) {
            Check.due("count " + what + " of nothing", y.count(what), 0);
        }
        Check.due("no stock", y.has(0), 0);
        Check.due("no hurt", y.has(1), 0);
    }

    /** "by these alone": nothing of what was read before. */
    private static void aLifeReadTwiceIsTheSame() {
        NettleShirts x = new NettleShirts();
        Check.type(x, "plot 3 7;plot 3 8;plot 3 9;shirt 2;shirt 3;shirt 4;shirt 5;charge 9;charge 8;charge 7;charge 6;"
            + "proof 1;proof 2;proof 3;proof 4;law 0 abcdefgh;law 3 z;day " + "a".repeat(44) + ";");
        Check.due("a full text", x.count(7), 199);
        Edge.fine("read", x, () -> x.read(), 18);
        long state = x.digest();
        x.night(0);
        x.night(3);
        x.told(2, 5);
        Edge.fine("read again", x, () -> x.read(), 18);
        Check.due("the same life", x.digest(), state);
        x.clear();
        Check.type(x, "plot 0 1;shirt 1;charge 1;proof 1;law 0 b;day c;");
        Edge.fine("another life", x, () -> x.read(), 6);
        NettleShirts y = new NettleShirts();
        Check.type(y, "plot 0 1;shirt 1;charge 1;proof 1;law 0 b;day c;");
        Check.due("read alone", y.read(), 6);
        Check.due("has nothing of the one before", x.digest(), y.digest());
        Check.due("nor is more left to sew", x.left(0, 0), 1);
    }

    /** Items told ahead of the one that is refused are not in the next life either. */
    private static void whatWasRefusedIsNotKept() {
        NettleShirts x = new NettleShirts();
        Check.type(x, "plot 0 1;shirt 1;charge 1;proof 1;law 0 b;day c;shirt 13;");
        Edge.fine("refused", x, () -> x.read(), -1006);
        x.clear();
        Edge.fine("a life of nothing", x, () -> x.read(), 0);
        Check.due("nothing is there", x.digest(), new NettleShirts().digest());
    }

    /** "THE TEXT is empty": bytes that were there are none of a shorter text. */
    private static void whatWasClearedIsNotRead() {
        cleared("day ab;", "day a", -15);
        cleared("day ab.", "day ab", -16);
        cleared("law 0 abcdefghi;", "law 0 abcdefgh", -24);
        cleared("shirt 123;", "shirt 12", -18);
        cleared("shirt 1; ;", "shirt 1; ", 1);
        cleared("shirt 1;", "shirt", -15);
        cleared("plots", "plot", -14);
        cleared("day a;day b;", "day a;", 1);
    }

    private static void cleared(String before, String text, int due) {
        NettleShirts x = new NettleShirts();
        Check.type(x, before);
        x.clear();
        Check.type(x, text);
        Edge.fine("'" + text + "' behind '" + before + "'", x, () -> x.read(), due);
    }

    /** THE TEXT, THE FRACTION, the IMAGES and the STATUS are no items. */
    private static void theRestStays() {
        NettleShirts x = muchToldAlready();
        x.stings(3, 1, 1);
        x.image(1);
        x.status(3);
        x.from(0);
        Check.type(x, "shirt 1;");
        Check.due("read", x.read(), 1);
        Check.due("above", x.part(0), 7);
        Check.due("below", x.part(1), 10);
        Check.due("BAD", x.status(0), 1);
        Check.due("NO", x.status(1), 1);
        Check.due("bytes", x.count(7), 8);
        Check.due("read again", x.read(), 1);
        Check.due("one shirt", x.count(1), 1);
        Check.due("the image", x.from(1), 1);
        Check.due("its shirts", x.count(1), 2);
        Check.due("its nights", x.count(3), 3);
        Edge.no("the other was never kept", x, () -> x.from(0));
    }

    private static NettleShirts muchToldAlready() {
        NettleShirts x = new NettleShirts();
        x.plot(3, 9);
        x.plot(0, 9);
        x.shirt(4);
        x.shirt(5);
        x.told(0, 5);
        x.told(1, 6);
        x.night(0);
        x.night(3);
        x.night(1);
        Check.signs(x, "abc");
        for (int i = 0; i <= 3; i++) {
            Check.law(x, i, "b.+");
        }
        x.show(0, 3);
        x.show(1, 3);
        return x;
    }

    private static void leftAlone(String text, int answer) {
        NettleShirts x = muchToldAlready();
        Check.type(x, text);
        long state = x.digest();
        long[] was = {x.nettles(0), x.nettles(1), x.sewn(0), x.silent(), x.lasts(9, 0), x.plan(2, -1)};
        Edge.fine("read of '" + text + "'", x, () -> x.read(), answer);
        Check.due("the digest", x.digest(), state);
        long[] is = {x.nettles(0), x.nettles(1), x.sewn(0), x.silent(), x.lasts(9, 0), x.plan(2, -1)};
        for (int k = 0; k < is.length; k++) {
            Check.due("value " + k + " behind '" + text + "'", is[k], was[k]);
        }
        for (int k = 0; k < 3; k++) {
            Edge.fine("undo " + k, x, () -> x.undo(), 1);
        }
        Edge.no("no more", x, () -> x.undo());
        Check.due("nettles at first", x.nettles(0), 9);
    }

    /** "-10 less the FAULT": the life stays as it is. */
    private static void aFaultChangesNothing() {
        leftAlone("oh", -10);
        leftAlone("plot 1 2;law 0 abc;day zz;charge 9", -44);
        leftAlone("plot 1 2;shirt 100;", -25);
    }

    /** "-1000 less the number of the first ITEM that is refused: nothing changes." */
    private static void aRefusedItemChangesNothing() {
        leftAlone("shirt 13;", -1000);
        leftAlone("plot 1 2;shirt 3;law 0 abc;day zz;charge 9;proof 8;shirt 13;", -1006);
        leftAlone("law 1 abcd;law 1 abcde;", -1001);
    }

    /** "ITEMS are none" of what STATUS counts, nor is a fault. */
    private static void readIsNeverRefused() {
        NettleShirts x = new NettleShirts();
        Check.type(x, "plot 6 0;");
        x.read();
        x.clear();
        Check.type(x, "shirt 1;shirt 1;shirt 1;shirt 1;shirt 1;");
        x.read();
        x.clear();
        Check.type(x, "!");
        x.read();
        for (int what = 0; what <= 2; what++) {
            Check.due("status " + what, x.status(what), 0);
        }
    }
}
