/** Promises 1 to 8: a new object, plot, shirt, night, undo, nettles, sewn, has. */
public final class PlotsAndShirtsTest {
    public static void main(String[] args) {
        aNewObjectIsEmpty();
        plots();
        shirts();
        picksOfEachKind();
        hurtsAndGrowthOfEachKind();
        pickingHasItsLimits();
        sewing();
        resting();
        nightsThatThereAreNot();
        undoing();
        undoLeavesTheRestAlone();
        whatThereIsToAsk();
        Check.end();
    }

    private static void aNewObjectIsEmpty() {
        NettleShirts x = new NettleShirts();
        for (int what = 0; what <= 7; what++) {
            Check.due("count of a new object", x.count(what), 0);
        }
        for (int what = 0; what <= 2; what++) {
            Check.due("status of a new object", x.status(what), 0);
        }
        Check.due("new: stock", x.has(0), 0);
        Check.due("new: hurt", x.has(1), 0);
        Check.due("new: above", x.part(0), 0);
        Check.due("new: below", x.part(1), 1);
        Check.due("new: silent", x.silent(), 15);
        Check.due("new: from", x.from(0), NettleShirts.NO);
        Check.due("NONE", NettleShirts.NONE, -1);
        Check.due("BAD", NettleShirts.BAD, -2);
        Check.due("NO", NettleShirts.NO, -3);
        Check.due("FULL", NettleShirts.FULL, -4);
    }

    private static void plots() {
        NettleShirts x = new NettleShirts();
        Check.due("kind -1", x.plot(-1, 5), -2);
        Check.due("kind 6", x.plot(6, 5), -2);
        Check.due("-1 nettles", x.plot(0, -1), -2);
        Check.due("21 nettles", x.plot(0, 21), -2);
        Check.due("greatest numbers", x.plot(Integer.MAX_VALUE, Integer.MIN_VALUE), -2);
        Check.due("the first plot", x.plot(0, 0), 0);
        Check.due("the second plot", x.plot(5, 20), 1);
        Check.due("the third plot", x.plot(3, 7), 2);
        Check.due("a fourth plot", x.plot(0, 5), -4);
        Check.due("a bad fourth plot", x.plot(6, 5), -2);
        Check.due("nettles 0", x.nettles(0), 0);
        Check.due("nettles 1", x.nettles(1), 20);
        Check.due("nettles 2", x.nettles(2), 7);
        Check.due("refused as BAD", x.status(0), 6);
        Check.due("refused as FULL", x.status(2), 1);
    }

    private static void shirts() {
        NettleShirts x = new NettleShirts();
        Check.due("no parts", x.shirt(0), -2);
        Check.due("13 parts", x.shirt(13), -2);
        Check.due("shirt 0", x.shirt(1), 0);
        Check.due("shirt 1", x.shirt(12), 1);
        Check.due("shirt 2", x.shirt(3), 2);
        Check.due("shirt 3", x.shirt(4), 3);
        Check.due("shirt 4", x.shirt(5), -4);
        Check.due("shirt 4, bad", x.shirt(-5), -2);
        Check.due("not sewn yet", x.sewn(3), 0);
        Check.due("shirts", x.count(1), 4);
    }

    private static void picksOfEachKind() {
        int[][] picks = {{3, 3, 3}, {3, 3, 3}, {4, 4, 4}, {4, 4, 4}, {3, 3, 0}, {2, 2, 2}};
        for (int kind = 0; kind <= 5; kind++) {
            NettleShirts x = new NettleShirts();
            x.plot(kind, 20);
            for (int number = 0; number < 6; number++) {
                Check.due("kind " + kind + " in night " + number, x.night(0), picks[kind][number % 3]);
            }
        }
    }

    private static void hurtsAndGrowthOfEachKind() {
        int[] hurts = {1, 0, 1, 3, 0, 1};
        int[][] left = {{18, 16}, {17, 15}, {17, 14}, {18, 16}, {17, 15}, {20, 20}};
        for (int kind = 0; kind <= 5; kind++) {
            NettleShirts x = new NettleShirts();
            x.plot(kind, 20);
            x.night(0);
            Check.due("hurt by kind " + kind, x.has(1), hurts[kind]);
            Check.due("kind " + kind + " behind night 0", x.nettles(0), left[kind][0]);
            x.night(0);
            Check.due("hurt twice by kind " + kind, x.has(1), 2 * hurts[kind]);
            Check.due("kind " + kind + " behind night 1", x.nettles(0), left[kind][1]);
        }
        NettleShirts y = new NettleShirts();
        y.plot(3, 10);
        y.plot(5, 10);
        y.night(0);
        Check.due("the other plot is at its most", y.nettles(1), 10);
        y.night(1);
        Check.due("it grew twice, but to its most", y.nettles(0), 10);
        Check.due("young behind its night", y.nettles(1), 10);
    }

    private static void pickingHasItsLimits() {
        NettleShirts x = new NettleShirts();
        x.plot(4, 0);
        x.plot(0, 2);
        Check.due("a bare plot", x.night(0), 0);
        Check.due("no more than are there", x.night(1), 2);
        Check.due("who picks none is hurt all the same", x.has(1), 1);
        x.night(1);
        x.night(1);
        Check.due("grown by one, picked, grown", x.nettles(1), 1);
        NettleShirts y = new NettleShirts();
        y.plot(3, 20);
        y.plot(2, 20);
        for (int k = 0; k < 7; k++) {
            Check.due("four a night", y.night(k % 2), 4);
        }
        Check.due("hurt is 9 at most", y.has(1), 9);
        Check.due("room for two", y.night(0), 2);
        Check.due("no room", y.night(1), 0);
        Check.due("stock is 30 at most", y.has(0), 30);
    }

    private static void sewing() {
        NettleShirts x = new NettleShirts();
        x.shirt(12);
        x.shirt(2);
        x.plot(1, 20);
        x.plot(0, 20);
        x.plot(3, 20);
        Check.due("without stock", x.night(3), 0);
        x.night(0);
        x.night(0);
        x.night(0);
        Check.due("no more than it lacks", x.night(4), 2);
        Check.due("unhurt", x.night(3), 3);
        x.night(2);
        Check.due("hurt 3", x.night(3), 2);
        x.night(2);
        Check.due("hurt 6", x.night(3), 1);
        x.night(2);
        Check.due("hurt 9", x.night(3), 0);
        Check.due("sewn 0", x.sewn(0), 6);
        Check.due("sewn 1", x.sewn(1), 2);
        Check.due("stock", x.has(0), 9 + 12 - 8);
        Check.due("a shirt that is done", x.night(4), 0);
        NettleShirts y = new NettleShirts();
        y.plot(5, 20);
        y.shirt(12);
        y.night(0);
        Check.due("no more than stock has", y.night(3), 2);
        Check.due("no stock left", y.has(0), 0);
    }

    private static void resting() {
        NettleShirts x = new NettleShirts();
        Check.due("rest without plots", x.night(7), 0);
        x.plot(3, 20);
        x.night(0);
        Check.due("hurt 3, rested", x.night(7), 1);
        Check.due("hurt 1, rested", x.night(7), 0);
        Check.due("hurt 0, rested", x.night(7), 0);
        Check.due("grown meanwhile", x.nettles(0), 20);
        Check.due("nights", x.count(2), 5);
    }

    private static void nightsThatThereAreNot() {
        NettleShirts x = new NettleShirts();
        for (int what = -1; what <= 8; what++) {
            if (what != 7) {
                Check.due("night " + what + " of nothing", x.night(what), -2);
            }
        }
        x.plot(0, 1);
        x.shirt(1);
        Check.due("plot 1", x.night(1), -2);
        Check.due("plot 2", x.night(2), -2);
        Check.due("shirt 1", x.night(4), -2);
        Check.due("greatest", x.night(Integer.MAX_VALUE), -2);
        Check.due("least", x.night(Integer.MIN_VALUE), -2);
        Check.due("no nights", x.count(2), 0);
        Check.due("none to undo", x.count(3), 0);
        Check.due("refused", x.status(0), 14);
    }

    private static void undoing() {
        NettleShirts x = new NettleShirts();
        x.plot(0, 20);
        x.shirt(12);
        long empty = x.digest();
        Check.due("nothing to undo", x.undo(), -3);
        x.night(0);
        x.night(3);
        Check.due("undo the sewing", x.undo(), 1);
        Check.due("not sewn", x.sewn(0), 0);
        Check.due("stock is back", x.has(0), 3);
        Check.due("undo the picking", x.undo(), 1);
        Check.due("as ahead of all", x.digest(), empty);
        for (int k = 0; k < 15; k++) {
            x.night(k % 3 == 2 ? 3 : 0);
        }
        Check.due("12 at most", x.count(3), 12);
        for (int k = 0; k < 12; k++) {
            Check.due("undo " + k, x.undo(), 1);
        }
        Check.due("no thirteenth", x.undo(), -3);
        Check.due("three nights stay", x.count(2), 3);
        Check.due("sewn in them", x.sewn(0), 3);
        x.night(7);
        Check.due("a bad plot", x.plot(9, 9), -2);
        Check.due("leaves what may be undone", x.count(3), 1);
        x.plot(0, 1);
        Check.due("a plot leaves none", x.undo(), -3);
        x.night(7);
        x.shirt(1);
        Check.due("a shirt leaves none", x.undo(), -3);
        Check.due("refused as NO", x.status(1), 4);
    }

    private static void undoLeavesTheRestAlone() {
        NettleShirts x = new NettleShirts();
        x.plot(0, 9);
        x.night(0);
        x.told(0, 4);
        x.sign(3);
        x.law(2, 1);
        x.show(1, 9);
        x.stings(5, 1, 1);
        Check.due("undo", x.undo(), 1);
        Check.due("told stays", x.told(0, 4), 4);
        Check.due("signs stay", x.count(4), 1);
        Check.due("laws stay", x.noLaw(2), 1);
        Check.due("proofs stay", x.count(6), 1);
        Check.due("the fraction stays", x.part(1), 2);
    }

    private static void whatThereIsToAsk() {
        NettleShirts x = new NettleShirts();
        Check.due("nettles of none", x.nettles(0), -2);
        Check.due("sewn of none", x.sewn(0), -2);
        x.plot(0, 3);
        x.shirt(3);
        Check.due("nettles -1", x.nettles(-1), -2);
        Check.due("nettles 1", x.nettles(1), -2);
        Check.due("nettles, greatest", x.nettles(Integer.MAX_VALUE), -2);
        Check.due("sewn -1", x.sewn(-1), -2);
        Check.due("sewn 1", x.sewn(1), -2);
        Check.due("has -1", x.has(-1), -2);
        Check.due("has 2", x.has(2), -2);
        Check.due("refused", x.status(0), 9);
    }
}
