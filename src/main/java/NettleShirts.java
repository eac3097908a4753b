import java.util.Arrays;

/** Six shirts of nettles by the seventh year, and what is told of the life in which they are sewn. */
public final class NettleShirts {
    public static final int NONE = -1, BAD = -2, NO = -3, FULL = -4;

    private static final int NOT_SO_MANY = -5;
    private static final int BAD_ASKED = -10;
    private static final int FAULT_BASE = -10;
    private static final int REFUSED_BASE = -1000;

    private static final int MOST_PLANNED = 5;
    private static final int MOST_BARE = 4;
    private static final int MOST_PICKS = 12;
    private static final int MOST_STINGS = 13;
    private static final int MOST_OF_TEN = 10;
    private static final int MOST_TERM = 99;
    private static final int IMAGES = 2;

    private final Life life = new Life();
    private final Life draft = new Life();
    private final Life[] images = new Life[IMAGES];
    private final Planner planner = new Planner();
    private final LifeText text = new LifeText();
    private long above = 0;
    private long below = 1;
    private int bads = 0;
    private int noes = 0;
    private int fulls = 0;

    public NettleShirts() {
    }

    // ---- plots, shirts

    public int plot(int kind, int n) {
        return counted(life.addPlot(kind, n));
    }

    public int shirt(int parts) {
        return counted(life.addShirt(parts));
    }

    public int night(int what) {
        return counted(life.passNight(what));
    }

    public int undo() {
        return counted(life.takeBack());
    }

    public int nettles(int plot) {
        return counted(life.hasPlot(plot) ? life.now[plot] : BAD);
    }

    public int sewn(int shirt) {
        return counted(life.hasShirt(shirt) ? life.now[Life.FIRST_SHIRT + shirt] : BAD);
    }

    public int has(int what) {
        if (what == 0) {
            return life.now[Life.STOCK];
        }
        return counted(what == 1 ? life.now[Life.HURT] : BAD);
    }

    // ---- plans

    public int plan(int m, int i) {
        if (!within(m, 0, MOST_PLANNED) || i < NONE) {
            return badAsked();
        }
        int most = planner.search(life, m, 0, false);
        return i == NONE ? most : planner.chosen(i);
    }

    public int inTime(int m, int some, int i) {
        if (!within(m, 0, MOST_PLANNED) || !life.areShirts(some) || i < NONE) {
            return badAsked();
        }
        int most = planner.search(life, m, some, false);
        return most == NONE || i == NONE ? most : planner.chosen(i);
    }

    public int fewest(int some) {
        if (!life.areShirts(some)) {
            return counted(BAD);
        }
        for (int m = 0; m <= MOST_PLANNED; m++) {
            if (planner.search(life, m, some, true) != NONE) {
                return m;
            }
        }
        return NONE;
    }

    public int left(int m, int what) {
        if (!within(m, 0, MOST_PLANNED) || !within(what, 0, 1)) {
            return badAsked();
        }
        planner.search(life, m, 0, false);
        int[] row = planner.behindChosen(life);
        return what == 0 ? life.lacking(row) : life.mostLacking(row);
    }

    public int stings(int n, int k, int l) {
        if (!within(n, 0, MOST_OF_TEN) || !within(k, 0, MOST_PICKS) || !within(l, 0, MOST_STINGS)) {
            return counted(BAD);
        }
        long ways = waysOfFewer(n, k, l);
        long all = power(MOST_OF_TEN, k);
        long common = commonDivisor(all, ways);
        if (common > 0) {
            above = ways / common;
            below = all / common;
        }
        return 1;
    }

    public int surest(int n, int l, int a, int b) {
        boolean chanceAsTold = within(n, 0, MOST_OF_TEN) && within(l, 0, MOST_STINGS);
        if (!chanceAsTold || !within(b, 1, MOST_TERM) || !within(a, 1, b)) {
            return counted(BAD);
        }
        for (int k = MOST_PICKS; k >= 0; k--) {
            if (waysOfFewer(n, k, l) * b >= power(MOST_OF_TEN, k) * a) {
                return k;
            }
        }
        return NONE;
    }

    public int told(int plot, int n) {
        return counted(life.tellBare(plot, n));
    }

    public int bare(int m, int what) {
        if (!within(m, 0, MOST_BARE) || !within(what, 0, 1)) {
            return counted(BAD);
        }
        int rows = planner.bareRows(life, m);
        if (what == 0) {
            return rows;
        }
        return counted(rows == 0 ? NO : planner.firstBare());
    }

    // ---- words

    public int sign(int c) {
        return counted(life.day.addSign(c));
    }

    public int hush() {
        return life.day.forgetSigns();
    }

    public int law(int i, int c) {
        return counted(life.day.addLawSign(i, c));
    }

    public int noLaw(int i) {
        return counted(life.day.forgetLaw(i));
    }

    public int word(int i) {
        return counted(Day.isLaw(i) ? life.day.firstWord(i) : BAD);
    }

    public int silent() {
        return life.day.unbroken();
    }

    public int met(int c, int i) {
        if (!Day.isLetter(c) || i < NONE) {
            return badAsked();
        }
        int more = life.day.fewestMore(c);
        if (more == NONE || i == NONE) {
            return more;
        }
        return i < more ? life.day.moreSign(i) : NOT_SO_MANY;
    }

    // ---- a trial

    public int show(int what, int weight) {
        return counted(life.trial.add(what, weight));
    }

    public int noTrial() {
        return life.trial.forget();
    }

    public int lasts(int l, int what) {
        if (!within(l, 1, Trial.MOST_LEAD) || !within(what, 0, 1)) {
            return counted(BAD);
        }
        int shown = life.trial.mostShown(l);
        return what == 0 ? shown : life.trial.firstCharge();
    }

    // ---- what there is

    public int type(long v, int n) {
        return counted(text.addBytes(v, n));
    }

    public int clear() {
        return text.forget();
    }

    public int read() {
        int fault = text.fault();
        if (fault != NONE) {
            return FAULT_BASE - fault;
        }
        draft.empty();
        int refused = text.tell(draft);
        if (refused != NONE) {
            return REFUSED_BASE - refused;
        }
        life.become(draft);
        return text.items();
    }

    public long part(int what) {
        if (what == 0) {
            return above;
        }
        return what == 1 ? below : counted(BAD);
    }

    public int image(int i) {
        if (!within(i, 0, IMAGES - 1)) {
            return counted(BAD);
        }
        if (images[i] == null) {
            images[i] = new Life();
        }
        images[i].become(life);
        return 1;
    }

    public int from(int i) {
        if (!within(i, 0, IMAGES - 1)) {
            return counted(BAD);
        }
        if (images[i] == null) {
            return counted(NO);
        }
        life.become(images[i]);
        return 1;
    }

    public int status(int what) {
        switch (what) {
            case 0: return bads;
            case 1: return noes;
            case 2: return fulls;
            default:
                bads++;
                return -1;
        }
    }

    public int count(int what) {
        return counted(amount(what));
    }

    public long digest() {
        long h = 821;
        for (int what = 0; what <= 7; what++) {
            h = 31 * h + amount(what);
        }
        h = life.mixed(h);
        h = 31 * h + above;
        return 31 * h + below;
    }

    // ---- what the calls share

    /** Every answer of these is passed on as it is; the refusals among them are counted on the way. */
    private int counted(int answer) {
        if (answer == BAD) {
            bads++;
        } else if (answer == NO) {
            noes++;
        } else if (answer == FULL) {
            fulls++;
        }
        return answer;
    }

    private int badAsked() {
        bads++;
        return BAD_ASKED;
    }

    private int amount(int what) {
        switch (what) {
            case 0: return life.plots;
            case 1: return life.shirts;
            case 2: return life.now[Life.NUMBER];
            case 3: return life.undoable;
            case 4: return life.day.size;
            case 5: return life.trial.sizes[Trial.CHARGES];
            case 6: return life.trial.sizes[Trial.PROOFS];
            case 7: return text.size;
            default: return BAD;
        }
    }

    private static boolean within(int number, int least, int most) {
        return number >= least && number <= most;
    }

    private static boolean isSet(int bits, int k) {
        return ((bits >> k) & 1) == 1;
    }

    /** Of the 10^k ways in which k picks can go: those in which fewer than l sting. */
    private static long waysOfFewer(int n, int k, int l) {
        long ways = 0;
        long choices = 1;
        for (int stung = 0; stung < l && stung <= k; stung++) {
            ways += choices * power(n, stung) * power(MOST_OF_TEN - n, k - stung);
            choices = choices * (k - stung) / (stung + 1);
        }
        return ways;
    }

    private static long power(int base, int exponent) {
        long product = 1;
        for (int k = 0; k < exponent; k++) {
            product *= base;
        }
        return product;
    }

    private static long commonDivisor(long greater, long less) {
        long a = greater;
        long b = less;
        for (int k = 0; k < 1000 && b != 0; k++) {
            long rest = a % b;
            a = b;
            b = rest;
        }
        return a;
    }

    /** Kind 0, which the others stand under. */
    private static class PlotKind {
        int picks(int number) {
            return 3;
        }

        int hurts() {
            return 1;
        }

        int grows(int number) {
            return 1;
        }
    }

    private static class ShadyKind extends PlotKind {
        int hurts() {
            return super.hurts() - 1;
        }

        int grows(int number) {
            return number % 2 == 1 ? 1 : 0;
        }
    }

    private static class RichKind extends PlotKind {
        int picks(int number) {
            return super.picks(number) + 1;
        }
    }

    private static final class FierceKind extends RichKind {
        int hurts() {
            return super.hurts() + 2;
        }

        int grows(int number) {
            return super.grows(number) + 1;
        }
    }

    private static final class WatchedKind extends ShadyKind {
        int picks(int number) {
            return number % 3 == 2 ? 0 : super.picks(number);
        }
    }

    private static final class YoungKind extends RichKind {
        int picks(int number) {
            return super.picks(number) / 2;
        }

        int grows(int number) {
            return super.grows(number) + 1;
        }
    }

    /**
     * All that an image keeps. What nights change stands in a row of numbers, so that a night to come
     * can be tried on another row: at 0 .. 2 nettles of the plots, at 3 .. 6 parts sewn of the shirts
     * (a night's own number is the place that it works at), then stock, hurt and the next night's number.
     */
    private static final class Life {
        static final int PLOTS = 3;
        static final int FIRST_SHIRT = 3;
        static final int SHIRTS = 4;
        static final int REST = 7;
        static final int STOCK = 7;
        static final int HURT = 8;
        static final int NUMBER = 9;
        static final int ROW = 10;
        static final int UNDOABLE = 12;
        static final int MOST_NETTLES = 20;
        static final int MOST_PARTS = 12;
        static final int MOST_STOCK = 30;
        static final int MOST_HURT = 9;
        static final int SEWN_UNHURT = 3;
        static final int HEALED = 2;

        final PlotKind[] kinds = {
            new PlotKind(), new ShadyKind(), new RichKind(), new FierceKind(), new WatchedKind(), new YoungKind()
        };
        final int[] kind = new int[PLOTS];
        final int[] bare = new int[PLOTS];
        /** The most there can be: nettles of a plot, parts of a shirt; placed as in a row. */
        final int[] limit = new int[FIRST_SHIRT + SHIRTS];
        int plots = 0;
        int shirts = 0;
        final int[] now = new int[ROW];
        /** Rows ahead of the nights that may be undone, the last one behind the others. */
        final int[] before = new int[UNDOABLE * ROW];
        int undoable = 0;
        final Day day = new Day();
        final Trial trial = new Trial();

        void empty() {
            Arrays.fill(now, 0);
            plots = 0;
            shirts = 0;
            undoable = 0;
            day.empty();
            trial.forget();
        }

        void become(Life other) {
            System.arraycopy(other.kind, 0, kind, 0, PLOTS);
            System.arraycopy(other.bare, 0, bare, 0, PLOTS);
            System.arraycopy(other.limit, 0, limit, 0, FIRST_SHIRT + SHIRTS);
            plots = other.plots;
            shirts = other.shirts;
            System.arraycopy(other.now, 0, now, 0, ROW);
            System.arraycopy(other.before, 0, before, 0, UNDOABLE * ROW);
            undoable = other.undoable;
            day.become(other.day);
            trial.become(other.trial);
        }

        boolean hasPlot(int plot) {
            return plot >= 0 && plot < plots;
        }

        boolean hasShirt(int shirt) {
            return shirt >= 0 && shirt < shirts;
        }

        boolean areShirts(int some) {
            return some >= 0 && some < (1 << shirts);
        }

        boolean hasNight(int what) {
            return what == REST || hasPlot(what) || isSewing(what);
        }

        boolean isSewing(int what) {
            return what >= FIRST_SHIRT && what < FIRST_SHIRT + shirts;
        }

        int addPlot(int newKind, int n) {
            if (newKind < 0 || newKind >= kinds.length || n < 0 || n > MOST_NETTLES) {
                return BAD;
            }
            if (plots >= PLOTS) {
                return FULL;
            }
            kind[plots] = newKind;
            bare[plots] = 0;
            limit[plots] = n;
            now[plots] = n;
            undoable = 0;
            return plots++;
        }

        int addShirt(int parts) {
            if (parts < 1 || parts > MOST_PARTS) {
                return BAD;
            }
            if (shirts >= SHIRTS) {
                return FULL;
            }
            limit[FIRST_SHIRT + shirts] = parts;
            now[FIRST_SHIRT + shirts] = 0;
            undoable = 0;
            return shirts++;
        }

        int tellBare(int plot, int n) {
            if (!hasPlot(plot) || n < 0 || n > MOST_NETTLES) {
                return BAD;
            }
            int was = bare[plot];
            bare[plot] = n;
            return was;
        }

        int passNight(int what) {
            if (!hasNight(what)) {
                return BAD;
            }
            if (undoable >= UNDOABLE) {
                System.arraycopy(before, ROW, before, 0, (UNDOABLE - 1) * ROW);
                undoable = UNDOABLE - 1;
            }
            System.arraycopy(now, 0, before, undoable * ROW, ROW);
            undoable++;
            return pass(now, what);
        }

        int takeBack() {
            if (undoable <= 0) {
                return NO;
            }
            undoable--;
            System.arraycopy(before, undoable * ROW, now, 0, ROW);
            return 1;
        }

        /** A night that there is passes on a row: what is picked, sewn, or the hurt then. */
        int pass(int[] row, int what) {
            int answer = what < FIRST_SHIRT ? pick(row, what) : what < REST ? sew(row, what) : rest(row);
            for (int plot = 0; plot < plots; plot++) {
                int grown = row[plot] + kinds[kind[plot]].grows(row[NUMBER]);
                row[plot] = Math.min(grown, limit[plot]);
            }
            row[NUMBER]++;
            return answer;
        }

        private int pick(int[] row, int plot) {
            PlotKind its = kinds[kind[plot]];
            int room = Math.min(row[plot], MOST_STOCK - row[STOCK]);
            int picked = Math.min(its.picks(row[NUMBER]), room);
            row[plot] -= picked;
            row[STOCK] += picked;
            row[HURT] = Math.min(row[HURT] + its.hurts(), MOST_HURT);
            return picked;
        }

        private int sew(int[] row, int place) {
            int can = Math.min(partsBy(row[HURT]), row[STOCK]);
            int done = Math.min(can, limit[place] - row[place]);
            row[place] += done;
            row[STOCK] -= done;
            return done;
        }

        private int rest(int[] row) {
            row[HURT] = Math.max(row[HURT] - HEALED, 0);
            return row[HURT];
        }

        static int partsBy(int hurt) {
            return SEWN_UNHURT - hurt / 3;
        }

        int lacks(int[] row, int shirt) {
            return limit[FIRST_SHIRT + shirt] - row[FIRST_SHIRT + shirt];
        }

        int lacking(int[] row) {
            int sum = 0;
            for (int shirt = 0; shirt < shirts; shirt++) {
                sum += lacks(row, shirt);
            }
            return sum;
        }

        int mostLacking(int[] row) {
            int found = NONE;
            for (int shirt = 0; shirt < shirts; shirt++) {
                if (found == NONE || lacks(row, shirt) > lacks(row, found)) {
                    found = shirt;
                }
            }
            return found;
        }

        boolean isAsToldBare(int[] row) {
            for (int plot = 0; plot < plots; plot++) {
                if (row[plot] != bare[plot]) {
                    return false;
                }
            }
            return true;
        }

        long mixed(long before) {
            long h = 31 * before + now[STOCK];
            h = 31 * h + now[HURT];
            for (int plot = 0; plot < plots; plot++) {
                h = 31 * h + kind[plot];
                h = 31 * h + now[plot];
                h = 31 * h + limit[plot];
                h = 31 * h + bare[plot];
            }
            for (int place = FIRST_SHIRT; place < FIRST_SHIRT + shirts; place++) {
                h = 31 * h + limit[place];
                h = 31 * h + now[place];
            }
            return trial.mixed(day.mixed(h));
        }
    }

    /** The signs of a day, and the laws of what a word is. */
    private static final class Day {
        static final int SIGNS = 60;
        static final int LETTERS = 26;
        static final int ANY = 26;
        static final int SOME = 27;
        static final int LAWS = 4;
        static final int LAW = 8;
        static final int MORE = 3;
        static final int MORE_LETTERS = 4;

        final int[] signs = new int[SIGNS];
        int size = 0;
        final int[] laws = new int[LAWS * LAW];
        final int[] lawSizes = new int[LAWS];
        final int[] reached = new int[LAWS];
        final int[] more = new int[MORE];

        static boolean isLaw(int i) {
            return i >= 0 && i < LAWS;
        }

        static boolean isLetter(int c) {
            return c >= 0 && c < LETTERS;
        }

        void empty() {
            size = 0;
            Arrays.fill(lawSizes, 0);
        }

        void become(Day other) {
            System.arraycopy(other.signs, 0, signs, 0, SIGNS);
            size = other.size;
            System.arraycopy(other.laws, 0, laws, 0, LAWS * LAW);
            System.arraycopy(other.lawSizes, 0, lawSizes, 0, LAWS);
        }

        int addSign(int c) {
            if (!isLetter(c)) {
                return BAD;
            }
            if (size >= SIGNS) {
                return FULL;
            }
            signs[size] = c;
            size++;
            return size;
        }

        int forgetSigns() {
            int were = size;
            size = 0;
            return were;
        }

        int addLawSign(int i, int c) {
            if (!isLaw(i) || c < 0 || c > SOME) {
                return BAD;
            }
            if (lawSizes[i] >= LAW) {
                return FULL;
            }
            laws[i * LAW + lawSizes[i]] = c;
            lawSizes[i]++;
            return lawSizes[i];
        }

        int forgetLaw(int i) {
            if (!isLaw(i)) {
                return BAD;
            }
            int were = lawSizes[i];
            lawSizes[i] = 0;
            return were;
        }

        int firstWord(int i) {
            int reach = 0;
            for (int place = 0; place < size; place++) {
                reach = step(i, reach, signs[place]);
                if (isBroken(i, reach)) {
                    return place;
                }
            }
            return NONE;
        }

        int unbroken() {
            int bits = 0;
            for (int i = 0; i < LAWS; i++) {
                if (firstWord(i) == NONE) {
                    bits |= 1 << i;
                }
            }
            return bits;
        }

        /**
         * Bit k of a reach: the first k signs of the pattern fit a row of signs that ends here.
         * None of them fit an empty row, which ends everywhere; so bit 0 is always taken as set.
         */
        private int step(int i, int reach, int sign) {
            int next = 0;
            for (int k = 0; k < lawSizes[i]; k++) {
                int wanted = laws[i * LAW + k];
                boolean fits = wanted == sign || wanted == ANY || wanted == SOME;
                boolean begins = isSet(reach | 1, k);
                boolean goesOn = wanted == SOME && isSet(reach, k + 1);
                if (fits && (begins || goesOn)) {
                    next |= 1 << (k + 1);
                }
            }
            return next;
        }

        private boolean isBroken(int i, int reach) {
            return lawSizes[i] > 0 && isSet(reach, lawSizes[i]);
        }

        /** How many more signs meet the demand for a letter; moreSign then has them. */
        int fewestMore(int c) {
            if (size > 0 && size <= SIGNS && signs[size - 1] == c) {
                return 0;
            }
            if (c >= MORE_LETTERS) {
                return NONE;
            }
            int kept = unbroken();
            reachEnd();
            int rows = 1;
            for (int n = 1; n <= MORE; n++) {
                for (int code = 0; code < rows; code++) {
                    writeMore(n, code * MORE_LETTERS + c);
                    if (keeps(kept, n)) {
                        return n;
                    }
                }
                rows *= MORE_LETTERS;
            }
            return NONE;
        }

        int moreSign(int i) {
            return i >= 0 && i < MORE ? more[i] : NONE;
        }

        private void reachEnd() {
            for (int i = 0; i < LAWS; i++) {
                int reach = 0;
                for (int place = 0; place < size; place++) {
                    reach = step(i, reach, signs[place]);
                }
                reached[i] = reach;
            }
        }

        /** The last letter is the lowest figure, so that greater codes come later in the order asked. */
        private void writeMore(int n, int code) {
            int rest = code;
            for (int k = n - 1; k >= 0; k--) {
                more[k] = rest % MORE_LETTERS;
                rest /= MORE_LETTERS;
            }
        }

        private boolean keeps(int kept, int n) {
            for (int i = 0; i < LAWS; i++) {
                int reach = reached[i];
                for (int k = 0; k < n && isSet(kept, i); k++) {
                    reach = step(i, reach, more[k]);
                    if (isBroken(i, reach)) {
                        return false;
                    }
                }
            }
            return true;
        }

        long mixed(long before) {
            long h = before;
            for (int place = 0; place < size; place++) {
                h = 31 * h + signs[place];
            }
            for (int i = 0; i < LAWS; i++) {
                h = 31 * h + lawSizes[i];
                for (int k = 0; k < lawSizes[i]; k++) {
                    h = 31 * h + laws[i * LAW + k];
                }
            }
            return h;
        }
    }

    /** The charges and the proofs of a trial; which of them are shown is told by bits. */
    private static final class Trial {
        static final int CHARGES = 0;
        static final int PROOFS = 1;
        static final int SIDE = 4;
        static final int SETS = 16;
        static final int MOST_WEIGHT = 9;
        static final int MOST_LEAD = 20;

        final int[] weights = new int[2 * SIDE];
        final int[] sizes = new int[2];
        /** How many are shown in the end, by charges and proofs shown so far. */
        final int[] ends = new int[SETS * SETS];

        void become(Trial other) {
            System.arraycopy(other.weights, 0, weights, 0, 2 * SIDE);
            System.arraycopy(other.sizes, 0, sizes, 0, 2);
        }

        int add(int what, int weight) {
            if (what < CHARGES || what > PROOFS || weight < 1 || weight > MOST_WEIGHT) {
                return BAD;
            }
            if (sizes[what] >= SIDE) {
                return FULL;
            }
            weights[what * SIDE + sizes[what]] = weight;
            sizes[what]++;
            return sizes[what] - 1;
        }

        int forget() {
            int were = sizes[CHARGES] + sizes[PROOFS];
            sizes[CHARGES] = 0;
            sizes[PROOFS] = 0;
            return were;
        }

        /** From the fullest sets down, as what follows on a set is looked up in fuller ones. */
        int mostShown(int lead) {
            for (int charges = (1 << sizes[CHARGES]) - 1; charges >= 0; charges--) {
                for (int proofs = (1 << sizes[PROOFS]) - 1; proofs >= 0; proofs--) {
                    int ahead = Integer.bitCount(charges) - Integer.bitCount(proofs);
                    if (ahead == 0 || ahead == 1) {
                        ends[charges * SETS + proofs] = endBehind(lead, charges, proofs);
                    }
                }
            }
            return ends[0];
        }

        private int endBehind(int lead, int charges, int proofs) {
            int shown = Integer.bitCount(charges) + Integer.bitCount(proofs);
            if (weight(CHARGES, charges) - weight(PROOFS, proofs) >= lead) {
                return shown;
            }
            boolean hers = shown % 2 == 1;
            int side = hers ? PROOFS : CHARGES;
            int end = NONE;
            for (int k = 0; k < sizes[side]; k++) {
                int next = hers ? charges * SETS + (proofs | 1 << k) : (charges | 1 << k) * SETS + proofs;
                boolean isLeft = next != charges * SETS + proofs;
                boolean isBetter = end == NONE || (hers ? ends[next] > end : ends[next] < end);
                if (isLeft && isBetter) {
                    end = ends[next];
                }
            }
            return end == NONE ? shown : end;
        }

        private int weight(int side, int shown) {
            int sum = 0;
            for (int k = 0; k < sizes[side]; k++) {
                sum += isSet(shown, k) ? weights[side * SIDE + k] : 0;
            }
            return sum;
        }

        /** By what mostShown has found. */
        int firstCharge() {
            for (int k = 0; k < sizes[CHARGES]; k++) {
                if (ends[(1 << k) * SETS] == ends[0]) {
                    return k;
                }
            }
            return NONE;
        }

        long mixed(long before) {
            long h = before;
            for (int side = CHARGES; side <= PROOFS; side++) {
                for (int k = 0; k < sizes[side]; k++) {
                    h = 31 * h + weights[side * SIDE + k];
                }
            }
            return h;
        }
    }

    /** Tries nights to come, one row of a life behind the other. */
    private static final class Planner {
        private final int[][] rows = new int[MOST_PLANNED + 1][Life.ROW];
        private final int[] tried = new int[MOST_PLANNED];
        private final int[] best = new int[MOST_PLANNED];
        /** How many pieces of 1, 2 and 3 parts the shirts still lack, a night of sewing taking one at most. */
        private final int[] pieces = new int[Life.SEWN_UNHURT + 1];
        private int nights = 0;
        private int some = 0;
        private int most = NONE;
        private int mostPicked = 0;
        private boolean anyWillDo = false;
        private int found = 0;
        private int first = 0;

        /** The most that m nights sew behind which told shirts are all sewn, or NONE; any such plan may do. */
        int search(Life life, int m, int shirts, boolean any) {
            begin(life, m);
            some = shirts;
            anyWillDo = any;
            most = NONE;
            mostPicked = 0;
            for (int plot = 0; plot < life.plots; plot++) {
                for (int k = 0; k < m; k++) {
                    int picks = life.kinds[life.kind[plot]].picks(life.now[Life.NUMBER] + k);
                    mostPicked = Math.max(mostPicked, picks);
                }
            }
            tryFrom(life, 0, 0);
            return most;
        }

        int chosen(int i) {
            return i >= 0 && i < nights ? best[i] : NOT_SO_MANY;
        }

        int[] behindChosen(Life life) {
            begin(life, nights);
            for (int k = 0; k < nights; k++) {
                life.pass(rows[0], best[k]);
            }
            return rows[0];
        }

        private void begin(Life life, int m) {
            nights = Math.min(m, MOST_PLANNED);
            System.arraycopy(life.now, 0, rows[0], 0, Life.ROW);
        }

        /**
         * Nights in their order, and a plan kept only where it beats the one kept, give the first of like
         * ones. A night that leaves stock and hurt alone changes nothing else by itself, so that the
         * first such one stands for all of them.
         */
        private void tryFrom(Life life, int depth, int sewn) {
            if (depth > nights || !isWorth(life, depth, sewn)) {
                return;
            }
            if (depth == nights) {
                most = sewn;
                System.arraycopy(tried, 0, best, 0, nights);
                return;
            }
            int[] row = rows[depth];
            int[] next = rows[depth + 1];
            boolean idled = false;
            for (int what = 0; what <= Life.REST; what++) {
                if (!life.hasNight(what)) {
                    continue;
                }
                System.arraycopy(row, 0, next, 0, Life.ROW);
                int got = life.pass(next, what);
                boolean idle = next[Life.STOCK] == row[Life.STOCK] && next[Life.HURT] == row[Life.HURT];
                if (!idle || !idled) {
                    tried[depth] = what;
                    tryFrom(life, depth + 1, life.isSewing(what) ? sewn + got : sewn);
                }
                idled = idled || idle;
            }
        }

        /** Whether what is still to come could be enough for the told shirts, and more than is kept. */
        private boolean isWorth(Life life, int depth, int sewn) {
            if (anyWillDo && most != NONE) {
                return false;
            }
            int[] row = rows[depth];
            int ahead = nights - depth;
            int parts = 0;
            int sewing = 0;
            Arrays.fill(pieces, 0);
            for (int shirt = 0; shirt < life.shirts; shirt++) {
                int lacks = life.lacks(row, shirt);
                int whole = lacks / Life.SEWN_UNHURT;
                int rest = lacks - whole * Life.SEWN_UNHURT;
                pieces[Life.SEWN_UNHURT] += whole;
                pieces[rest]++;
                if (isSet(some, shirt)) {
                    parts += lacks;
                    sewing += rest == 0 ? whole : whole + 1;
                }
            }
            int sewable = mostSewable(row, ahead);
            return sewing <= ahead && parts <= sewable && sewn + sewable > most;
        }

        /**
         * No plan sews more: as if each night without sewing both healed and was the best of picking, and
         * the nights of sewing took the greatest pieces.
         */
        private int mostSewable(int[] row, int ahead) {
            int threes = pieces[3];
            int twos = threes + pieces[2];
            int ones = twos + pieces[1];
            int hands = 0;
            int cloth = 0;
            int sewable = 0;
            for (int sewing = 1; sewing <= ahead; sewing++) {
                int others = ahead - sewing;
                hands += Life.partsBy(Math.max(row[Life.HURT] - Life.HEALED * others, 0));
                cloth += sewing <= threes ? 3 : sewing <= twos ? 2 : sewing <= ones ? 1 : 0;
                int stock = row[Life.STOCK] + mostPicked * others;
                sewable = Math.max(sewable, Math.min(stock, Math.min(hands, cloth)));
            }
            return sewable;
        }

        int bareRows(Life life, int m) {
            begin(life, m);
            found = 0;
            first = 0;
            pickFrom(life, 0, 0);
            return found;
        }

        int firstBare() {
            return first;
        }

        private void pickFrom(Life life, int depth, int digits) {
            if (depth >= nights) {
                if (life.isAsToldBare(rows[nights])) {
                    first = found == 0 ? digits : first;
                    found++;
                }
                return;
            }
            for (int what = 0; what <= Life.REST; what++) {
                if (life.hasPlot(what) || what == Life.REST) {
                    System.arraycopy(rows[depth], 0, rows[depth + 1], 0, Life.ROW);
                    life.pass(rows[depth + 1], what);
                    pickFrom(life, depth + 1, digits * 8 + what);
                }
            }
        }
    }

    /** The text of a life: its bytes, the tokens and the items in them. */
    private static final class LifeText {
        static final int BYTES = 200;
        static final int FIGURES = 2;

        static final int END = 0, WORD = 1, NUMBER = 2, STOP = 3, OTHER = 4;
        static final int PLOT = 0, SHIRT = 1, CHARGE = 2, PROOF = 3, LAW = 4, DAY = 5, ITEMS = 6;

        private final int[] bytes = new int[BYTES];
        int size = 0;
        private int at = 0;
        private int start = 0;
        private int token = END;
        private int number = 0;
        private int item = NONE;
        private int first = 0;
        private int second = 0;
        private int wordStart = 0;
        private int wordEnd = 0;
        private int items = 0;

        int addBytes(long v, int n) {
            if (n < 1 || n > 8) {
                return BAD;
            }
            if (size + n > BYTES) {
                return FULL;
            }
            for (int k = n - 1; k >= 0; k--) {
                bytes[size] = (int) ((v >> (8 * k)) & 255);
                size++;
            }
            return size;
        }

        int forget() {
            int were = size;
            size = 0;
            return were;
        }

        int items() {
            return items;
        }

        /** The place of the fault, or NONE. */
        int fault() {
            at = 0;
            for (int k = 0; k <= size; k++) {
                takeToken();
                if (token == END) {
                    return NONE;
                }
                if (!takeItem()) {
                    return start;
                }
            }
            return NONE;
        }

        /** Tells a life the items of a text without a fault: the first that is refused, or NONE. */
        int tell(Life life) {
            at = 0;
            items = 0;
            for (int k = 0; k <= size; k++) {
                takeToken();
                if (token == END || !takeItem()) {
                    return NONE;
                }
                if (tellItem(life) < 0) {
                    return items;
                }
                items++;
            }
            return NONE;
        }

        private int tellItem(Life life) {
            switch (item) {
                case PLOT: return life.addPlot(first, second);
                case SHIRT: return life.addShirt(first);
                case CHARGE: return life.trial.add(Trial.CHARGES, first);
                case PROOF: return life.trial.add(Trial.PROOFS, first);
                default: return tellSigns(life.day);
            }
        }

        private int tellSigns(Day day) {
            int answer = 0;
            for (int k = wordStart; k < wordEnd && answer >= 0; k++) {
                int c = signOf(bytes[k]);
                answer = item == LAW ? day.addLawSign(first, c) : day.addSign(c);
            }
            return answer;
        }

        /** Takes the rest of an item whose first token has been taken. */
        private boolean takeItem() {
            item = token == WORD ? itemNamed() : NONE;
            if (item == NONE) {
                return false;
            }
            String form = form(item);
            for (int k = 0; k < form.length(); k++) {
                takeToken();
                if (!stands(form.charAt(k))) {
                    return false;
                }
            }
            return true;
        }

        private int itemNamed() {
            for (int k = 0; k < ITEMS; k++) {
                if (isTaken(name(k))) {
                    return k;
                }
            }
            return NONE;
        }

        private boolean isTaken(String name) {
            if (at - start != name.length()) {
                return false;
            }
            for (int k = 0; k < name.length(); k++) {
                if (bytes[start + k] != name.charAt(k)) {
                    return false;
                }
            }
            return true;
        }

        private static String name(int item) {
            switch (item) {
                case PLOT: return "plot";
                case SHIRT: return "shirt";
                case CHARGE: return "charge";
                case PROOF: return "proof";
                case LAW: return "law";
                default: return "day";
            }
        }

        /** What stands behind the name: 1 and 2 are numbers, l and d the words of a law and of a day. */
        private static String form(int item) {
            switch (item) {
                case PLOT: return "12;";
                case LAW: return "1l;";
                case DAY: return "d;";
                default: return "1;";
            }
        }

        private boolean stands(char wanted) {
            if (wanted == ';') {
                return token == STOP;
            }
            if (wanted == 'l') {
                return standsWord(Day.LAW, Day.SOME);
            }
            if (wanted == 'd') {
                return standsWord(Day.SIGNS, Day.LETTERS - 1);
            }
            if (wanted == '1') {
                first = number;
            } else {
                second = number;
            }
            return token == NUMBER;
        }

        private boolean standsWord(int longest, int lastSign) {
            wordStart = start;
            wordEnd = at;
            if (token != WORD || at - start > longest) {
                return false;
            }
            for (int k = start; k < at; k++) {
                if (signOf(bytes[k]) > lastSign) {
                    return false;
                }
            }
            return true;
        }

        private void takeToken() {
            while (at < size && bytes[at] == ' ') {
                at++;
            }
            start = at;
            if (at >= size) {
                token = END;
            } else if (signOf(bytes[at]) != NONE) {
                takeWord();
            } else if (isFigure(bytes[at])) {
                takeNumber();
            } else {
                token = bytes[at] == ';' ? STOP : OTHER;
                at++;
            }
        }

        private void takeWord() {
            token = WORD;
            while (at < size && signOf(bytes[at]) != NONE) {
                at++;
            }
        }

        private void takeNumber() {
            number = 0;
            while (at < size && isFigure(bytes[at])) {
                number = number * 10 + bytes[at] - '0';
                at++;
            }
            token = at - start > FIGURES ? OTHER : NUMBER;
        }

        private static int signOf(int b) {
            if (b >= 'a' && b <= 'z') {
                return b - 'a';
            }
            return b == '.' ? Day.ANY : b == '+' ? Day.SOME : NONE;
        }

        private static boolean isFigure(int b) {
            return b >= '0' && b <= '9';
        }
    }
}
