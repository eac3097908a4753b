import java.math.BigInteger;
import java.util.ArrayList;
import java.util.List;

/** Each sentence of the promises 30 to 35, and of what Terms say of IMAGES and STATUS, that names a boundary. */
public final class EdgesOfStateTest {
    public static void main(String[] args) {
        theFractionIs0By1AtFirst();
        partHasTwo();
        imagesAreTwo();
        noneWasKept();
        imagesKeepAll();
        imagesKeepNightsThatMayBeUndone();
        imagesKeepAFullLife();
        imagesKeepEachValue();
        imagesDoNotKeepTheRest();
        imagesDoNotKeepImages();
        anImageStaysAsItWas();
        aLaterImageTakesThePlace();
        statusHasThree();
        countHasEight();
        countsGoToTheirMost();
        digestOfNothing();
        digestOfAFullLife();
        digestWrapsAround();
        digestHasNoMoreThanItTells();
        Check.end();
    }

    /** "THE FRACTION is 0 by 1 at first". */
    private static void theFractionIs0By1AtFirst() {
        NettleShirts x = new NettleShirts();
        Edge.fine("above", x, () -> x.part(0), 0);
        Edge.fine("below", x, () -> x.part(1), 1);
        Check.due("fewer than none", x.stings(5, 5, 0), 1);
        Edge.fine("above again", x, () -> x.part(0), 0);
        Edge.fine("below again", x, () -> x.part(1), 1);
    }

    /** "above (0), below (1). BAD." */
    private static void partHasTwo() {
        NettleShirts x = new NettleShirts();
        x.stings(1, 12, 1);
        Edge.bad("part -1", x, () -> x.part(-1));
        Edge.fine("part 0", x, () -> x.part(0), 282429536481L);
        Edge.fine("part 1", x, () -> x.part(1), 1000000000000L);
        Edge.bad("part 2", x, () -> x.part(2));
        for (int far : Edge.far()) {
            Edge.bad("part " + far, x, () -> x.part(far));
        }
    }

    /** "IMAGES 0, 1"; "BAD". */
    private static void imagesAreTwo() {
        NettleShirts x = new NettleShirts();
        Edge.bad("image -1", x, () -> x.image(-1));
        Edge.fine("image 0", x, () -> x.image(0), 1);
        Edge.fine("image 1", x, () -> x.image(1), 1);
        Edge.bad("image 2", x, () -> x.image(2));
        Edge.bad("from -1", x, () -> x.from(-1));
        Edge.fine("from 0", x, () -> x.from(0), 1);
        Edge.fine("from 1", x, () -> x.from(1), 1);
        Edge.bad("from 2", x, () -> x.from(2));
        for (int far : Edge.far()) {
            Edge.bad("image " + far, x, () -> x.image(far));
            Edge.bad("from " + far, x, () -> x.from(far));
        }
    }

    /** "NO: none was kept." */
    private static void noneWasKept() {
        for (int i = 0; i <= 1; i++) {
            int kept = i;
            NettleShirts x = new NettleShirts();
            x.shirt(5);
            Edge.no("from(0)", x, () -> x.from(0));
            Edge.no("from(1)", x, () -> x.from(1));
            Edge.fine("image " + i, x, () -> x.image(kept), 1);
            Edge.fine("from " + i, x, () -> x.from(kept), 1);
            Edge.no("the other one", x, () -> x.from(1 - kept));
            Check.due("the shirt", x.count(1), 1);
        }
    }

    /** "keep all". */
    private static void imagesKeepAll() {
        NettleShirts x = new NettleShirts();
        x.plot(4, 9);
        x.shirt(3);
        x.told(0, 7);
        x.night(0);
        Check.signs(x, "ab");
        Check.law(x, 1, "b");
        x.show(0, 4);
        x.show(1, 5);
        long state = x.digest();
        x.image(0);
        x.night(3);
        x.night(7);
        x.told(0, 1);
        x.hush();
        x.noLaw(1);
        x.noTrial();
        x.shirt(2);
        x.plot(1, 1);
        Edge.fine("from", x, () -> x.from(0), 1);
        Check.due("the digest", x.digest(), state);
        Check.due("night 1 is not watched", x.night(0), 3);
        Check.due("night 2 is", x.night(0), 0);
        Check.due("laws", x.silent(), 13);
        Check.due("told for bare", x.told(0, 0), 7);
        Check.due("the trial", x.lasts(4, 0), 1);
        NettleShirts y = new NettleShirts();
        y.image(1);
        y.plot(4, 9);
        y.shirt(3);
        y.night(0);
        Check.law(y, 0, "b");
        Check.signs(y, "ab");
        y.show(0, 4);
        y.from(1);
        for (int what = 0; what <= 7; what++) {
            Check.due("an image of nothing, count " + what, y.count(what), 0);
        }
        Check.due("no stock", y.has(0), 0);
        Check.due("no law", y.noLaw(0), 0);
    }

    /** "(NIGHTS that may be undone, too)". */
    private static void imagesKeepNightsThatMayBeUndone() {
        for (int nights : new int[] {0, 1, 11, 12, 13}) {
            NettleShirts x = new NettleShirts();
            x.plot(3, 20);
            for (int k = 0; k < nights; k++) {
                x.night(k % 2 == 0 ? 0 : 7);
            }
            x.image(0);
            for (int k = 0; k < 5; k++) {
                x.night(7);
            }
            x.shirt(1);
            Check.due("none may be", x.count(3), 0);
            x.from(0);
            int may = Math.min(12, nights);
            Check.due("of " + nights, x.count(3), may);
            for (int k = 0; k < may; k++) {
                Edge.fine("undo " + k, x, () -> x.undo(), 1);
            }
            Edge.no("no more", x, () -> x.undo());
            Check.due("nights", x.count(2), nights - may);
            Check.due("stock as then", x.has(0), nights == 13 ? 4 : 0);
            x.from(0);
            Check.due("the image still has them", x.count(3), may);
        }
    }

    private static NettleShirts fullLife() {
        NettleShirts x = new NettleShirts();
        for (int k = 0; k < 3; k++) {
            x.plot(3 + k, 20);
            x.told(k, 18 + k);
        }
        for (int k = 0; k < 4; k++) {
            x.shirt(9 + k);
        }
        for (int k = 0; k < 14; k++) {
            x.night(k % 8);
        }
        for (int k = 0; k < 60; k++) {
            x.sign((k + 25) % 26);
        }
        for (int k = 0; k < 32; k++) {
            x.law(k / 8, 27 - k % 28);
        }
        for (int k = 0; k < 4; k++) {
            x.show(0, 9 - k);
            x.show(1, 1 + k);
        }
        return x;
    }

    /** All that a life can hold, each at its most. */
    private static void imagesKeepAFullLife() {
        NettleShirts x = fullLife();
        long state = x.digest();
        x.image(0);
        x.read();
        x.image(1);
        long empty = x.digest();
        Check.due("from the full one", x.from(0), 1);
        Check.due("all is back", x.digest(), state);
        Edge.full("plots", x, () -> x.plot(0, 0));
        Edge.full("shirts", x, () -> x.shirt(1));
        Edge.full("signs", x, () -> x.sign(0));
        Edge.full("laws", x, () -> x.law(3, 0));
        Edge.full("charges", x, () -> x.show(0, 1));
        Edge.full("proofs", x, () -> x.show(1, 1));
        Check.due("from the empty one", x.from(1), 1);
        Check.due("nothing is there", x.digest(), empty);
    }

    /** Not how many alone: each value that another one has taken the place of is back. */
    private static void imagesKeepEachValue() {
        NettleShirts x = fullLife();
        long state = x.digest();
        int[] was = {x.lasts(9, 0), x.lasts(15, 0), x.left(0, 0), x.word(3), x.silent()};
        x.image(1);
        x.read();
        for (int k = 0; k < 3; k++) {
            x.plot(k, 3);
            x.told(k, 2);
        }
        for (int k = 0; k < 4; k++) {
            x.shirt(1);
            x.show(0, 1);
            x.show(1, 9);
        }
        for (int k = 0; k < 60; k++) {
            x.sign(1);
        }
        for (int k = 0; k < 32; k++) {
            x.law(k / 8, 2);
        }
        for (int k = 0; k < 14; k++) {
            x.night(7);
        }
        Check.due("from", x.from(1), 1);
        Check.due("the digest", x.digest(), state);
        int[] is = {x.lasts(9, 0), x.lasts(15, 0), x.left(0, 0), x.word(3), x.silent()};
        for (int k = 0; k < is.length; k++) {
            Check.due("value " + k, is[k], was[k]);
        }
    }

    /** "all but them, THE TEXT, THE FRACTION and STATUS". */
    private static void imagesDoNotKeepTheRest() {
        NettleShirts x = new NettleShirts();
        x.type(0, 3);
        x.stings(3, 1, 1);
        x.status(3);
        x.undo();
        for (int k = 0; k < 9; k++) {
            x.law(0, 0);
        }
        x.image(0);
        x.type(0, 4);
        x.stings(9, 1, 1);
        x.status(3);
        x.undo();
        x.law(0, 0);
        x.from(0);
        Check.due("the text", x.count(7), 7);
        Check.due("above", x.part(0), 1);
        Check.due("below", x.part(1), 10);
        Check.due("BAD", x.status(0), 2);
        Check.due("NO", x.status(1), 2);
        Check.due("FULL", x.status(2), 2);
    }

    /** "all but them": an image keeps no images. */
    private static void imagesDoNotKeepImages() {
        NettleShirts x = new NettleShirts();
        x.image(0);
        x.shirt(1);
        x.image(1);
        x.from(0);
        Check.due("no shirts", x.count(1), 0);
        Edge.fine("the later one is still kept", x, () -> x.from(1), 1);
        Check.due("a shirt", x.count(1), 1);
        Edge.fine("and the first one", x, () -> x.from(0), 1);
        Check.due("no shirts again", x.count(1), 0);
    }

    /** "it goes on from one": what is done then is not done to the image. */
    private static void anImageStaysAsItWas() {
        NettleShirts x = new NettleShirts();
        x.plot(0, 9);
        x.shirt(3);
        x.image(0);
        long state = x.digest();
        for (int k = 0; k < 3; k++) {
            Check.due("from", x.from(0), 1);
            Check.due("as it was", x.digest(), state);
            x.night(0);
            x.night(3);
            x.sign(k);
            x.law(k, k);
            x.show(k % 2, 1);
            x.told(0, k + 1);
            x.plot(1, 1);
            x.shirt(1);
        }
    }

    /** "An IMAGE is kept": in the place of the one before. */
    private static void aLaterImageTakesThePlace() {
        NettleShirts x = new NettleShirts();
        for (int k = 0; k < 4; k++) {
            x.shirt(2 + k);
            Edge.fine("image", x, () -> x.image(1), 1);
        }
        x.read();
        x.from(1);
        Check.due("the last one", x.count(1), 4);
    }

    /** "BAD (0), NO (1), FULL (2). -1: another what (counts as BAD)." */
    private static void statusHasThree() {
        NettleShirts x = new NettleShirts();
        Edge.refused("status -1", x, Edge.BAD, () -> x.status(-1), -1);
        Edge.refused("status 3", x, Edge.BAD, () -> x.status(3), -1);
        Edge.fine("status 0", x, () -> x.status(0), 2);
        Edge.fine("status 1", x, () -> x.status(1), 0);
        Edge.fine("status 2", x, () -> x.status(2), 0);
        for (int far : Edge.far()) {
            Edge.refused("status " + far, x, Edge.BAD, () -> x.status(far), -1);
        }
        Check.due("BAD", x.status(0), 2 + Edge.far().length);
    }

    /** "How many: 0 PLOTS .. 7 bytes of THE TEXT. BAD." */
    private static void countHasEight() {
        NettleShirts x = new NettleShirts();
        x.plot(0, 1);
        x.shirt(1);
        x.shirt(1);
        for (int k = 0; k < 13; k++) {
            x.night(7);
        }
        Check.signs(x, "abcd");
        for (int k = 0; k < 3; k++) {
            x.show(0, 1);
        }
        x.show(1, 1);
        x.show(1, 1);
        x.type(0, 5);
        int[] due = {1, 2, 13, 12, 4, 3, 2, 5};
        Edge.bad("count -1", x, () -> x.count(-1));
        for (int k = 0; k <= 7; k++) {
            int what = k;
            Edge.fine("count " + k, x, () -> x.count(what), due[k]);
        }
        Edge.bad("count 8", x, () -> x.count(8));
        for (int far : Edge.far()) {
            Edge.bad("count " + far, x, () -> x.count(far));
        }
    }

    /** Each of them at the most that there can be. */
    private static void countsGoToTheirMost() {
        NettleShirts x = fullLife();
        for (int k = 0; k < 25; k++) {
            x.type(0, 8);
        }
        int[] due = {3, 4, 14, 12, 60, 4, 4, 200};
        for (int what = 0; what <= 7; what++) {
            Check.due("count " + what, x.count(what), due[what]);
        }
    }

    private static long hash(List<Long> all) {
        BigInteger h = BigInteger.valueOf(821);
        for (long v : all) {
            h = h.multiply(BigInteger.valueOf(31)).add(BigInteger.valueOf(v));
        }
        return h.longValue();
    }

    private static void add(List<Long> all, long... values) {
        for (long v : values) {
            all.add(v);
        }
    }

    /** "h = 821; then h = 31 h + v": eight counts, stock, hurt, four empty laws, the fraction. */
    private static void digestOfNothing() {
        List<Long> all = new ArrayList<>();
        add(all, 0, 0, 0, 0, 0, 0, 0, 0, 0, 0, 0, 0, 0, 0, 0, 1);
        NettleShirts x = new NettleShirts();
        Edge.fine("of nothing", x, () -> x.digest(), hash(all));
    }

    /** Every value that is told, in its order, of a life that is full. */
    private static void digestOfAFullLife() {
        NettleShirts x = fullLife();
        x.stings(1, 12, 2);
        x.type(0, 8);
        List<Long> all = new ArrayList<>();
        add(all, 3, 4, 14, 12, 60, 4, 4, 8, x.has(0), x.has(1));
        for (int k = 0; k < 3; k++) {
            add(all, 3 + k, x.nettles(k), 20, 18 + k);
        }
        for (int k = 0; k < 4; k++) {
            add(all, 9 + k, x.sewn(k));
        }
        for (int k = 0; k < 60; k++) {
            add(all, (k + 25) % 26);
        }
        for (int k = 0; k < 32; k++) {
            if (k % 8 == 0) {
                add(all, 8);
            }
            add(all, 27 - k % 28);
        }
        add(all, 9, 8, 7, 6, 1, 2, 3, 4, 659002251789L, 1000000000000L);
        Edge.fine("of a full life", x, () -> x.digest(), hash(all));
    }

    /** Java's long wraps around: beyond 2 to the 63rd the digest goes on by its lowest 64 bits. */
    private static void digestWrapsAround() {
        NettleShirts x = new NettleShirts();
        List<Long> signs = new ArrayList<>();
        boolean wasBelow = false;
        for (int k = 0; k < 20; k++) {
            x.sign(25);
            add(signs, 25);
            List<Long> all = new ArrayList<>();
            add(all, 0, 0, 0, 0, k + 1, 0, 0, 0, 0, 0);
            all.addAll(signs);
            add(all, 0, 0, 0, 0, 0, 1);
            Check.due("of " + (k + 1) + " signs", x.digest(), hash(all));
            wasBelow |= x.digest() < 0;
        }
        Check.holds("one of them has wrapped to below 0", wasBelow);
    }

    /** Neither images, nor the status, nor what the text says are of it. */
    private static void digestHasNoMoreThanItTells() {
        NettleShirts x = fullLife();
        x.type(1, 8);
        long state = x.digest();
        x.image(0);
        x.status(9);
        x.plot(9, 9);
        x.clear();
        x.type(2, 8);
        x.met(0, -1);
        x.plan(2, 1);
        x.lasts(5, 1);
        Check.due("the digest", x.digest(), state);
        Check.due("and asked again", x.digest(), state);
    }
}
