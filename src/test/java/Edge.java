import java.util.function.LongSupplier;

/** Calls at a boundary and beside it: what they answer, what they count in the STATUS, and what they leave alone. */
final class Edge {
    static final int BAD = 0;
    static final int NO = 1;
    static final int FULL = 2;

    private static final int[] FAR = {Integer.MIN_VALUE, Integer.MIN_VALUE + 1, -256, -2, 256, Integer.MAX_VALUE};

    private Edge() {
    }

    /** A call that is not refused: no reason has one more behind it. */
    static void fine(String call, NettleShirts x, LongSupplier ask, long want) {
        long[] were = refusals(x);
        Check.due(call, ask.getAsLong(), want);
        counts(call, x, were, -1);
    }

    /** A call that is refused: it changes nothing, and its reason alone has one more. */
    static void refused(String call, NettleShirts x, int reason, LongSupplier ask, long want) {
        long[] were = refusals(x);
        long state = x.digest();
        Check.due(call, ask.getAsLong(), want);
        Check.due(call + ", the digest behind it", x.digest(), state);
        counts(call, x, were, reason);
    }

    static void bad(String call, NettleShirts x, LongSupplier ask) {
        refused(call, x, BAD, ask, NettleShirts.BAD);
    }

    static void badAsked(String call, NettleShirts x, LongSupplier ask) {
        refused(call, x, BAD, ask, -10);
    }

    static void no(String call, NettleShirts x, LongSupplier ask) {
        refused(call, x, NO, ask, NettleShirts.NO);
    }

    static void full(String call, NettleShirts x, LongSupplier ask) {
        refused(call, x, FULL, ask, NettleShirts.FULL);
    }

    /** Numbers that are beside every boundary, however the bits of one are taken. */
    static int[] far() {
        return FAR.clone();
    }

    private static long[] refusals(NettleShirts x) {
        return new long[] {x.status(BAD), x.status(NO), x.status(FULL)};
    }

    private static void counts(String call, NettleShirts x, long[] were, int reason) {
        for (int what = BAD; what <= FULL; what++) {
            Check.due(call + ", status " + what, x.status(what), were[what] + (what == reason ? 1 : 0));
        }
    }
}
