import java.util.function.LongSupplier;

/** "Refused, changing nothing but STATUS, the first of: BAD .. NO .. FULL", for every call that can be. */
public final class EdgesOfRefusalTest {
    private static int bads;

    public static void main(String[] args) {
        badNumbersChangeNothing();
        fullChangesNothing();
        noChangesNothing();
        badIsAheadOfFull();
        badIsAheadOfNo();
        othersCountAsThese();
        answersThatAreNoRefusals();
        Check.end();
    }

    /** Every store but the images is full, so that a refused call that wrote something would be seen. */
    private static NettleShirts fullLife() {
        NettleShirts x = new NettleShirts();
        for (int k = 0; k < 3; k++) {
            x.plot(2 * k, 20);
            x.told(k, 5 + k);
        }
        for (int k = 0; k < 4; k++) {
            x.shirt(12);
        }
        for (int k = 0; k < 60; k++) {
            x.sign(k % 4);
        }
        for (int k = 0; k < 32; k++) {
            x.law(k / 8, k % 28);
        }
        for (int k = 0; k < 4; k++) {
            x.show(0, 1 + k);
            x.show(1, 9 - k);
        }
        x.stings(3, 3, 2);
        for (int k = 0; k < 25; k++) {
            x.type(0x2020_2020_2020_2020L, 8);
        }
        x.image(0);
        for (int k = 0; k < 13; k++) {
            x.night(k % 7);
        }
        return x;
    }

    private static long[] all(NettleShirts x) {
        long[] values = new long[24];
        values[0] = x.digest();
        values[1] = x.silent();
        values[2] = x.plan(3, -1);
        values[3] = x.lasts(7, 0);
        values[4] = x.lasts(7, 1);
        values[5] = x.bare(1, 0);
        values[6] = x.part(0);
        values[7] = x.part(1);
        for (int what = 0; what <= 7; what++) {
            values[8 + what] = x.count(what);
        }
        for (int i = 0; i <= 3; i++) {
            values[16 + i] = x.word(i);
        }
        for (int k = 0; k < 3; k++) {
            values[20 + k] = x.nettles(k);
        }
        values[23] = x.met(0, -1);
        return values;
    }

    private interface Ask {
        long of(NettleShirts x, int bad);
    }

    /** Refused by each number beside what is told: nothing but the count of BAD is another behind it. */
    private static void bad(String call, long answer, int least, int most, Ask ask) {
        NettleShirts x = fullLife();
        long[] was = all(x);
        int[] numbers = {Integer.MIN_VALUE, least - 1, most + 1, Integer.MAX_VALUE};
        bads = x.status(0);
        for (int number : numbers) {
            Check.due(call + " by " + number, ask.of(x, number), answer);
            bads++;
            Check.due(call + " by " + number + ", BAD", x.status(0), bads);
        }
        Check.due(call + ", NO", x.status(1), 0);
        Check.due(call + ", FULL", x.status(2), 0);
        same(call, x, was);
    }

    private static void same(String call, NettleShirts x, long[] was) {
        long[] is = all(x);
        for (int k = 0; k < is.length; k++) {
            Check.due(call + ", value " + k, is[k], was[k]);
        }
        for (int k = 0; k < 12; k++) {
            Check.due(call + ", undo " + k, x.undo(), 1);
        }
        Check.due(call + ", a night stays", x.count(2), 1);
        Check.due(call + ", from the image", x.from(0), 1);
        Check.due(call + ", it is without nights", x.count(2), 0);
        Check.due(call + ", the other image", x.from(1), -3);
        Check.due(call + ", the text is of blanks", x.read(), 0);
        Check.due(call + ", all of it", x.clear(), 200);
    }

    /** "BAD -2 a number is not as told". */
    private static void badNumbersChangeNothing() {
        bad("plot, kind", -2, 0, 5, (x, n) -> x.plot(n, 5));
        bad("plot, n", -2, 0, 20, (x, n) -> x.plot(0, n));
        bad("shirt", -2, 1, 12, (x, n) -> x.shirt(n));
        bad("night", -2, 0, 7, (x, n) -> x.night(n));
        bad("nettles", -2, 0, 2, (x, n) -> x.nettles(n));
        bad("sewn", -2, 0, 3, (x, n) -> x.sewn(n));
        bad("has", -2, 0, 1, (x, n) -> x.has(n));
        bad("plan, m", -10, 0, 5, (x, n) -> x.plan(n, -1));
        bad("inTime, m", -10, 0, 5, (x, n) -> x.inTime(n, 1, -1));
        bad("inTime, some", -10, 0, 15, (x, n) -> x.inTime(1, n, -1));
        bad("fewest", -2, 0, 15, (x, n) -> x.fewest(n));
        bad("left, m", -10, 0, 5, (x, n) -> x.left(n, 0));
        bad("left, what", -10, 0, 1, (x, n) -> x.left(0, n));
        bad("stings, n", -2, 0, 10, (x, n) -> x.stings(n, 1, 1));
        bad("stings, k", -2, 0, 12, (x, n) -> x.stings(1, n, 1));
        bad("stings, l", -2, 0, 13, (x, n) -> x.stings(1, 1, n));
        bad("surest, n", -2, 0, 10, (x, n) -> x.surest(n, 1, 1, 1));
        bad("surest, l", -2, 0, 13, (x, n) -> x.surest(1, n, 1, 1));
        bad("surest, a", -2, 1, 99, (x, n) -> x.surest(1, 1, n, 99));
        bad("surest, b", -2, 1, 99, (x, n) -> x.surest(1, 1, 1, n));
        bad("told, plot", -2, 0, 2, (x, n) -> x.told(n, 0));
        bad("told, n", -2, 0, 20, (x, n) -> x.told(0, n));
        bad("bare, m", -2, 0, 4, (x, n) -> x.bare(n, 0));
        bad("bare, what", -2, 0, 1, (x, n) -> x.bare(0, n));
        bad("sign", -2, 0, 25, (x, n) -> x.sign(n));
        bad("law, i", -2, 0, 3, (x, n) -> x.law(n, 0));
        bad("law, c", -2, 0, 27, (x, n) -> x.law(0, n));
        bad("noLaw", -2, 0, 3, (x, n) -> x.noLaw(n));
        bad("word", -2, 0, 3, (x, n) -> x.word(n));
        bad("met", -10, 0, 25, (x, n) -> x.met(n, -1));
        bad("show, what", -2, 0, 1, (x, n) -> x.show(n, 1));
        bad("show, weight", -2, 1, 9, (x, n) -> x.show(0, n));
        bad("lasts, l", -2, 1, 20, (x, n) -> x.lasts(n, 0));
        bad("lasts, what", -2, 0, 1, (x, n) -> x.lasts(1, n));
        bad("type", -2, 1, 8, (x, n) -> x.type(0, n));
        bad("part", -2, 0, 1, (x, n) -> x.part(n));
        bad("image", -2, 0, 1, (x, n) -> x.image(n));
        bad("from", -2, 0, 1, (x, n) -> x.from(n));
        bad("status", -1, 0, 2, (x, n) -> x.status(n));
        bad("count", -2, 0, 7, (x, n) -> x.count(n));
    }

    private static void full(String call, NettleShirts x, LongSupplier ask) {
        long[] was = all(x);
        Edge.full(call, x, ask);
        Edge.full(call + " again", x, ask);
        same(call, x, was);
    }

    /** "FULL -4". */
    private static void fullChangesNothing() {
        NettleShirts plots = fullLife();
        full("plot", plots, () -> plots.plot(0, 0));
        NettleShirts shirts = fullLife();
        full("shirt", shirts, () -> shirts.shirt(1));
        NettleShirts signs = fullLife();
        full("sign", signs, () -> signs.sign(25));
        for (int i = 0; i <= 3; i++) {
            int law = i;
            NettleShirts laws = fullLife();
            full("law " + i, laws, () -> laws.law(law, 27));
        }
        NettleShirts charges = fullLife();
        full("charge", charges, () -> charges.show(0, 9));
        NettleShirts proofs = fullLife();
        full("proof", proofs, () -> proofs.show(1, 1));
        NettleShirts text = fullLife();
        full("type", text, () -> text.type(0, 1));
    }

    /** "NO -3 as told". */
    private static void noChangesNothing() {
        NettleShirts from = fullLife();
        long[] was = all(from);
        Edge.no("from(1)", from, () -> from.from(1));
        same("from(1)", from, was);
        NettleShirts bare = fullLife();
        for (int k = 0; k < 3; k++) {
            bare.told(k, 0);
        }
        long[] then = all(bare);
        Edge.no("bare(0, 1)", bare, () -> bare.bare(0, 1));
        Edge.no("bare(4, 1)", bare, () -> bare.bare(4, 1));
        same("bare", bare, then);
        NettleShirts undo = fullLife();
        for (int k = 0; k < 12; k++) {
            undo.undo();
        }
        Edge.no("undo", undo, () -> undo.undo());
        Edge.no("undo again", undo, () -> undo.undo());
        Check.due("a night stays", undo.count(2), 1);
    }

    /** "the first of": where nothing more can come, a bad number is BAD still. */
    private static void badIsAheadOfFull() {
        NettleShirts x = fullLife();
        Edge.bad("plot", x, () -> x.plot(6, 20));
        Edge.bad("plot, n", x, () -> x.plot(5, 21));
        Edge.bad("shirt", x, () -> x.shirt(13));
        Edge.bad("sign", x, () -> x.sign(26));
        Edge.bad("law, i", x, () -> x.law(4, 0));
        Edge.bad("law, c", x, () -> x.law(3, 28));
        Edge.bad("show, weight", x, () -> x.show(0, 10));
        Edge.bad("show, what", x, () -> x.show(2, 9));
        Edge.bad("type", x, () -> x.type(0, 9));
    }

    /** "the first of": where there is none, a bad number is BAD still. */
    private static void badIsAheadOfNo() {
        NettleShirts x = new NettleShirts();
        x.plot(0, 1);
        Edge.no("bare", x, () -> x.bare(0, 1));
        Edge.bad("bare, m", x, () -> x.bare(5, 1));
        Edge.bad("bare, what", x, () -> x.bare(0, 2));
        Edge.no("from", x, () -> x.from(1));
        Edge.bad("from, i", x, () -> x.from(2));
    }

    /** "(where others are told they count as these)". */
    private static void othersCountAsThese() {
        NettleShirts x = new NettleShirts();
        Edge.badAsked("plan", x, () -> x.plan(6, -1));
        Edge.badAsked("inTime", x, () -> x.inTime(6, 0, -1));
        Edge.badAsked("left", x, () -> x.left(6, 0));
        Edge.badAsked("met", x, () -> x.met(26, -1));
        Edge.refused("status", x, Edge.BAD, () -> x.status(3), -1);
        Check.due("five as BAD", x.status(0), 5);
    }

    /** "each answer told so below is such a one": NONE, -5, a fault, an item that is refused are not told so. */
    private static void answersThatAreNoRefusals() {
        NettleShirts x = new NettleShirts();
        x.shirt(1);
        Edge.fine("plan, not so many", x, () -> x.plan(0, 0), -5);
        Edge.fine("inTime, not so many", x, () -> x.inTime(0, 0, 0), -5);
        Edge.fine("inTime, none", x, () -> x.inTime(0, 1, -1), -1);
        Edge.fine("fewest, none", x, () -> x.fewest(1), -1);
        Edge.fine("left, a shirt", x, () -> x.left(0, 1), 0);
        Edge.fine("surest, none", x, () -> x.surest(1, 0, 1, 1), -1);
        Edge.fine("word, none", x, () -> x.word(0), -1);
        Edge.fine("met, none", x, () -> x.met(4, -1), -1);
        Edge.fine("met, not so many", x, () -> x.met(0, 1), -5);
        Edge.fine("lasts, none", x, () -> x.lasts(1, 1), -1);
        x.type('!', 1);
        Edge.fine("a fault", x, () -> x.read(), -10);
        x.clear();
        Check.type(x, "shirt 0;");
        Edge.fine("an item", x, () -> x.read(), -1000);
        x.clear();
        Edge.fine("a life of nothing", x, () -> x.read(), 0);
        Edge.fine("left, no shirt", x, () -> x.left(0, 1), -1);
    }
}
