/** Promises 27 to 35: type, clear, read, part, image, from, status, count, digest. */
public final class WhatThereIsTest {
    public static void main(String[] args) {
        typing();
        readingTells();
        readingTellsAnew();
        blanksBetween();
        faults();
        endsTooEarly();
        refusedItems();
        refusedChangesNothing();
        parts();
        images();
        imagesKeepWhatMayBeUndone();
        status();
        counts();
        digest();
        Check.end();
    }

    private static void typing() {
        NettleShirts x = new NettleShirts();
        Check.due("no bytes", x.type(1, 0), -2);
        Check.due("nine bytes", x.type(1, 9), -2);
        Check.due("below none", x.type(1, -1), -2);
        Check.due("two of more", x.type(0x1122_3b20_3b3bL, 2), 2);
        Check.due("the highest first: ; at 0", x.read(), -10);
        Check.due("clear", x.clear(), 2);
        Check.due("clear again", x.clear(), 0);
        for (int k = 1; k <= 24; k++) {
            Check.due("eight more", x.type(-1L, 8), 8 * k);
        }
        Check.due("seven more", x.type(0, 7), 199);
        Check.due("two are too many", x.type(0, 2), -4);
        Check.due("nothing came", x.count(7), 199);
        Check.due("the last one", x.type(0, 1), 200);
        Check.due("one too many", x.type(0, 1), -4);
        Check.due("a bad one", x.type(0, 9), -2);
        Check.due("FULL", x.status(2), 2);
        Check.due("clear all", x.clear(), 200);
    }

    private static void readingTells() {
        NettleShirts x = new NettleShirts();
        Check.type(x, "plot 2 15;plot 4 07;shirt 12;charge 9;charge 8;proof 1;law 3 a.+z;law 0 b;day abc;day zz;");
        Check.due("items", x.read(), 10);
        NettleShirts y = new NettleShirts();
        y.plot(2, 15);
        y.plot(4, 7);
        y.shirt(12);
        y.show(0, 9);
        y.show(0, 8);
        y.show(1, 1);
        Check.law(y, 3, "a.+z");
        Check.law(y, 0, "b");
        Check.signs(y, "abczz");
        int bytes = x.clear();
        Check.due("bytes", bytes, 89);
        Check.due("the same life", x.digest(), y.digest());
        Check.due("word 3", x.word(3), 3);
        Check.due("a law can be told in two items", Check.reading("law 0 abcd;law 0 efgh;"), 2);
    }

    private static void readingTellsAnew() {
        NettleShirts x = new NettleShirts();
        x.plot(3, 9);
        x.shirt(4);
        x.night(0);
        x.night(3);
        x.told(0, 5);
        Check.signs(x, "abc");
        Check.law(x, 2, "ab");
        x.show(0, 3);
        x.show(1, 3);
        x.stings(5, 1, 1);
        x.image(1);
        x.undo();
        x.undo();
        x.undo();
        Check.type(x, "plot 1 3;");
        Check.due("one item", x.read(), 1);
        int[] counts = {1, 0, 0, 0, 0, 0, 0, 9};
        for (int what = 0; what <= 7; what++) {
            Check.due("count " + what, x.count(what), counts[what]);
        }
        Check.due("no stock", x.has(0), 0);
        Check.due("no hurt", x.has(1), 0);
        Check.due("told for bare is anew", x.told(0, 0), 0);
        Check.due("no law", x.noLaw(2), 0);
        Check.due("the fraction stays", x.part(1), 2);
        Check.due("the status stays", x.status(1), 1);
        Check.due("the image stays", x.from(1), 1);
        Check.due("as it was", x.count(4), 3);
        Check.due("the text stays", x.count(7), 9);
        x.clear();
        Check.due("an empty life", x.read(), 0);
        Check.due("nothing is there", x.count(0) + x.count(1) + x.count(4), 0);
    }

    private static void blanksBetween() {
        Check.due("blanks alone", Check.reading("   "), 0);
        Check.due("blanks all about", Check.reading("  plot  5   20  ;  day  a ; "), 2);
        Check.due("no blanks", Check.reading("plot5 20;shirt3;law0a.+;charge9;"), 4);
        Check.due("a tab is none", Check.reading("plot\t5 20;"), -14);
        Check.due("a byte 0 is none", Check.reading("shirt 3;\0"), -18);
    }

    private static void faults() {
        Check.due("a word that is none", Check.reading("plots 1 2;"), -10);
        Check.due("a second one", Check.reading("shirt 1; sh 1;"), -19);
        Check.due("not a word", Check.reading("12;"), -10);
        Check.due("a stop", Check.reading("shirt 1;;"), -18);
        Check.due("a great letter", Check.reading("Shirt 1;"), -10);
        Check.due("a great letter within", Check.reading("shIrt 1;"), -10);
        Check.due("a word for a number", Check.reading("shirt a;"), -16);
        Check.due("a number for a word", Check.reading("day 1;"), -14);
        Check.due("a stop for a number", Check.reading("plot 1;"), -16);
        Check.due("a stop for a word", Check.reading("law 1 ;"), -16);
        Check.due("a number too many", Check.reading("shirt 1 2;"), -18);
        Check.due("a word too many", Check.reading("day ab c;"), -17);
        Check.due("a third figure's number", Check.reading("shirt 012;"), -16);
        Check.due("many figures", Check.reading("plot 1 " + "9".repeat(40) + ";"), -17);
        Check.due("two numbers told apart", Check.reading("plot 1 2;"), 1);
        Check.due("a law of nine", Check.reading("law 0 abcdefghi;"), -16);
        Check.due("a law of eight", Check.reading("law 0 abcde.+h;"), 1);
        Check.due("a day with another sign", Check.reading("day ab.;"), -14);
        Check.due("a day with a plus", Check.reading("day +;"), -14);
        Check.due("a day of 60", Check.reading("day " + "a".repeat(60) + ";"), 1);
        Check.due("a day of 61", Check.reading("day " + "a".repeat(61) + ";"), -14);
        Check.due("a byte that begins none", Check.reading("shirt 1!"), -17);
        Check.due("a byte above 127", Check.reading("shirt " + (char) 200 + ";"), -16);
        Check.due("ahead of what would be refused", Check.reading("shirt 99; shirt x;"), -26);
        NettleShirts x = new NettleShirts();
        x.shirt(5);
        Check.type(x, "plot 1 2; oh;");
        long h = x.digest();
        Check.due("a fault", x.read(), -20);
        Check.due("nothing changes", x.digest(), h);
        Check.due("not refused", x.status(0) + x.status(1) + x.status(2), 0);
    }

    private static void endsTooEarly() {
        Check.due("behind a name", Check.reading("shirt"), -15);
        Check.due("behind a number", Check.reading("shirt 12"), -18);
        Check.due("behind blanks", Check.reading("shirt 12  "), -20);
        Check.due("behind a word", Check.reading("law 0 ab"), -18);
        Check.due("in a later item", Check.reading("day a;plot 1 "), -23);
        Check.due("a part of a name is none", Check.reading("shir"), -10);
        Check.due("behind 200 bytes", Check.reading("shirt" + " ".repeat(195)), -210);
    }

    private static void refusedItems() {
        Check.due("kind 6", Check.reading("plot 6 1;"), -1000);
        Check.due("21 nettles", Check.reading("plot 0 21;"), -1000);
        Check.due("a fourth plot", Check.reading("plot 0 1;plot 0 1;plot 0 1;plot 0 1;"), -1003);
        Check.due("no parts", Check.reading("plot 0 1;shirt 0;"), -1001);
        Check.due("a fifth shirt", Check.reading("shirt 1;shirt 1;shirt 1;shirt 1;shirt 1;"), -1004);
        Check.due("a charge of 0", Check.reading("charge 0;"), -1000);
        Check.due("a proof of 10", Check.reading("proof 9;proof 10;"), -1001);
        Check.due("a fifth charge", Check.reading("charge 1;charge 1;charge 1;charge 1;charge 1;"), -1004);
        Check.due("four of each", Check.reading("charge 1;charge 1;charge 1;charge 1;proof 1;proof 1;proof 1;proof 1;"), 8);
        Check.due("law 4", Check.reading("law 4 a;"), -1000);
        Check.due("a law too long in all", Check.reading("law 1 aaaaa;law 2 a;law 1 bbbb;"), -1002);
        Check.due("a day too long in all", Check.reading("day " + "a".repeat(60) + ";day b;"), -1001);
        Check.due("the first of two", Check.reading("shirt 1;shirt 13;plot 9 9;"), -1001);
    }

    private static void refusedChangesNothing() {
        NettleShirts x = new NettleShirts();
        x.plot(0, 9);
        x.night(0);
        Check.type(x, "plot 1 2;day ab;law 0 a;charge 3;shirt 13;");
        long h = x.digest();
        Check.due("refused", x.read(), -1004);
        Check.due("nothing changes", x.digest(), h);
        Check.due("no law", x.silent(), 15);
        Check.due("the night may be undone", x.undo(), 1);
        Check.due("items are not counted", x.status(0) + x.status(1) + x.status(2), 0);
    }

    private static void parts() {
        NettleShirts x = new NettleShirts();
        Check.due("above at first", x.part(0), 0);
        Check.due("below at first", x.part(1), 1);
        x.stings(1, 12, 2);
        Check.due("above", x.part(0), 659002251789L);
        Check.due("below", x.part(1), 1000000000000L);
        Check.due("part -1", x.part(-1), -2);
        Check.due("part 2", x.part(2), -2);
        Check.due("BAD", x.status(0), 2);
    }

    private static void images() {
        NettleShirts x = new NettleShirts();
        Check.due("none kept", x.from(0), -3);
        Check.due("image 2", x.image(2), -2);
        Check.due("image -1", x.image(-1), -2);
        Check.due("from 2", x.from(2), -2);
        Check.due("from -1", x.from(-1), -2);
        x.plot(2, 9);
        x.shirt(3);
        x.told(0, 7);
        x.night(0);
        Check.signs(x, "ab");
        Check.law(x, 1, "b");
        x.show(0, 4);
        x.show(1, 5);
        long h = x.digest();
        Check.due("kept", x.image(0), 1);
        x.night(3);
        x.told(0, 1);
        x.hush();
        x.noLaw(1);
        x.noTrial();
        x.plot(1, 1);
        Check.due("kept too", x.image(1), 1);
        Check.due("back", x.from(0), 1);
        Check.due("all is back", x.digest(), h);
        x.sign(0);
        Check.due("back again", x.from(0), 1);
        Check.due("the image stays as it was", x.digest(), h);
        x.stings(5, 1, 1);
        Check.type(x, "day b");
        Check.due("to the other", x.from(1), 1);
        Check.due("two plots", x.count(0), 2);
        Check.due("the fraction is not of it", x.part(1), 2);
        Check.due("nor the text", x.count(7), 5);
        Check.due("nor the status", x.status(0), 4);
        Check.due("nor this", x.status(1), 1);
    }

    private static void imagesKeepWhatMayBeUndone() {
        NettleShirts x = new NettleShirts();
        x.plot(0, 9);
        x.night(0);
        x.night(0);
        x.image(0);
        x.shirt(1);
        Check.due("none may be", x.count(3), 0);
        x.from(0);
        Check.due("two may be", x.count(3), 2);
        Check.due("undo", x.undo(), 1);
        Check.due("undo", x.undo(), 1);
        Check.due("all nettles are back", x.nettles(0), 9);
        x.from(0);
        Check.due("two may be once more", x.count(3), 2);
    }

    private static void status() {
        NettleShirts x = new NettleShirts();
        Check.due("status 3", x.status(3), -1);
        Check.due("status -1", x.status(-1), -1);
        Check.due("they count as BAD", x.status(0), 2);
        x.undo();
        Check.due("NO", x.status(1), 1);
        x.plot(0, 0);
        x.plot(0, 0);
        x.plot(0, 0);
        x.plot(0, 0);
        Check.due("FULL", x.status(2), 1);
        x.plan(6, 0);
        Check.due("BAD by another number", x.status(0), 3);
        x.plan(2, 2);
        x.met(25, -1);
        x.met(0, 5);
        Check.due("not so many, and none, are not refused", x.status(0), 3);
    }

    private static void counts() {
        NettleShirts x = new NettleShirts();
        x.plot(0, 1);
        x.shirt(1);
        x.shirt(2);
        for (int k = 0; k < 13; k++) {
            x.night(7);
        }
        Check.signs(x, "abcd");
        x.show(0, 1);
        x.show(1, 1);
        x.show(1, 1);
        x.type(0, 5);
        int[] due = {1, 2, 13, 12, 4, 1, 2, 5};
        for (int what = 0; what <= 7; what++) {
            Check.due("count " + what, x.count(what), due[what]);
        }
        Check.due("count -1", x.count(-1), -2);
        Check.due("count 8", x.count(8), -2);
        Check.due("BAD", x.status(0), 2);
        x.undo();
        Check.due("a night less", x.count(2), 12);
        Check.due("to undo as well", x.count(3), 11);
    }

    private static void digest() {
        NettleShirts x = new NettleShirts();
        Check.due("of nothing", x.digest(), hash(0, 0, 0, 0, 0, 0, 0, 0, 0, 0, 0, 0, 0, 0, 0, 1));
        x.plot(3, 11);
        x.shirt(9);
        x.shirt(2);
        x.told(0, 6);
        x.night(0);
        x.night(4);
        Check.signs(x, "za");
        Check.law(x, 0, "b+");
        Check.law(x, 3, ".");
        x.show(0, 8);
        x.show(1, 7);
        x.show(1, 6);
        x.stings(3, 1, 1);
        x.type(0, 3);
        Check.due("of much", x.digest(), hash(1, 2, 2, 2, 2, 1, 2, 3, 2, 3, 3, 11, 11, 6, 9, 0, 2, 2, 25, 0,
            2, 1, 27, 0, 0, 1, 26, 8, 7, 6, 7, 10));
        Check.due("asked again", x.digest(), x.digest());
    }

    private static long hash(long... all) {
        long h = 821;
        for (long v : all) {
            h = 31 * h + v;
        }
        return h;
    }
}
