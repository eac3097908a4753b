/** Each sentence of the promises 24 to 26, and of what Terms say of a TRIAL, that names a boundary. */
public final class EdgesOfTrialTest {
    private static final int[] NONE = {};

    public static void main(String[] args) {
        fourOfEachAtMost();
        weightsAre1To9();
        chargesAndProofsAlone();
        noTrialTellsHowManyThereWere();
        lIs1To20();
        heavierByLOrMore();
        heavierTogether();
        itEndsAsSoonAs();
        sheHasNoneLeft();
        theOthersHaveNoneLeft();
        theOthersBegin();
        oneNotShownYet();
        sheWantsMost();
        theOthersWantFewest();
        ofLikeChargesTheLeast();
        noChargeOfNone();
        lastsHasTwo();
        Check.end();
    }

    private static NettleShirts trial(int[] charges, int[] proofs) {
        NettleShirts x = new NettleShirts();
        for (int w : charges) {
            x.show(0, w);
        }
        for (int w : proofs) {
            x.show(1, w);
        }
        return x;
    }

    private static int[] of(int... weights) {
        return weights;
    }

    private static void lasts(String what, NettleShirts x, int l, int shown, int charge) {
        Edge.fine(what + ", by " + l, x, () -> x.lasts(l, 0), shown);
        Edge.fine(what + ", by " + l + ", which charge", x, () -> x.lasts(l, 1), charge);
    }

    /** "4 each at most"; "FULL: 4." */
    private static void fourOfEachAtMost() {
        for (int what = 0; what <= 1; what++) {
            int side = what;
            NettleShirts x = new NettleShirts();
            for (int k = 0; k <= 3; k++) {
                Edge.fine("side " + what + ", " + k, x, () -> x.show(side, 9), k);
            }
            Edge.full("a fifth", x, () -> x.show(side, 9));
            Edge.bad("BAD ahead of FULL", x, () -> x.show(side, 10));
            Edge.fine("the other side has room", x, () -> x.show(1 - side, 1), 0);
            Check.due("charges", x.count(5), side == 0 ? 4 : 1);
            Check.due("proofs", x.count(6), side == 0 ? 1 : 4);
        }
    }

    /** "of a WEIGHT (1 .. 9)". */
    private static void weightsAre1To9() {
        for (int what = 0; what <= 1; what++) {
            int side = what;
            NettleShirts x = new NettleShirts();
            Edge.bad("weight -1", x, () -> x.show(side, -1));
            Edge.bad("weight 0", x, () -> x.show(side, 0));
            Edge.fine("weight 1", x, () -> x.show(side, 1), 0);
            Edge.fine("weight 2", x, () -> x.show(side, 2), 1);
            Edge.fine("weight 8", x, () -> x.show(side, 8), 2);
            Edge.fine("weight 9", x, () -> x.show(side, 9), 3);
            Edge.bad("weight 10", x, () -> x.show(side, 10));
            for (int far : Edge.far()) {
                Edge.bad("weight " + far, x, () -> x.show(side, far));
            }
        }
    }

    /** "A CHARGE (0), a PROOF (1) .. BAD". */
    private static void chargesAndProofsAlone() {
        NettleShirts x = new NettleShirts();
        Edge.bad("show -1", x, () -> x.show(-1, 1));
        Edge.fine("a charge", x, () -> x.show(0, 1), 0);
        Check.due("charges", x.count(5), 1);
        Edge.fine("a proof", x, () -> x.show(1, 1), 0);
        Check.due("proofs", x.count(6), 1);
        Edge.bad("show 2", x, () -> x.show(2, 1));
        for (int far : Edge.far()) {
            Edge.bad("show " + far, x, () -> x.show(far, 1));
        }
    }

    /** "No CHARGES, PROOFS: how many there were." */
    private static void noTrialTellsHowManyThereWere() {
        NettleShirts x = new NettleShirts();
        Edge.fine("none", x, () -> x.noTrial(), 0);
        x.show(0, 1);
        Edge.fine("a charge", x, () -> x.noTrial(), 1);
        x.show(1, 1);
        Edge.fine("a proof", x, () -> x.noTrial(), 1);
        Edge.fine("none again", x, () -> x.noTrial(), 0);
        NettleShirts y = trial(of(1, 2, 3, 4), of(5, 6, 7, 8));
        Edge.fine("all", y, () -> y.noTrial(), 8);
        Check.due("no charges", y.count(5), 0);
        Check.due("no proofs", y.count(6), 0);
        Edge.fine("room again", y, () -> y.show(0, 9), 0);
    }

    /** "by told L (1 .. 20)". */
    private static void lIs1To20() {
        NettleShirts x = trial(of(9, 9, 9), of(1, 1, 1));
        Edge.bad("by -1", x, () -> x.lasts(-1, 0));
        Edge.bad("by 0", x, () -> x.lasts(0, 0));
        lasts("at once", x, 1, 1, 0);
        lasts("at once", x, 2, 1, 0);
        lasts("behind the third charge", x, 19, 5, 0);
        lasts("behind the third charge", x, 20, 5, 0);
        Edge.bad("by 21", x, () -> x.lasts(21, 0));
        for (int far : Edge.far()) {
            Edge.bad("by " + far, x, () -> x.lasts(far, 0));
            Edge.bad("by " + far + ", which charge", x, () -> x.lasts(far, 1));
        }
    }

    /** "heavier .. by told L .. or more". */
    private static void heavierByLOrMore() {
        NettleShirts x = trial(of(5), of(1));
        lasts("more", x, 4, 1, 0);
        lasts("just so", x, 5, 1, 0);
        lasts("less", x, 6, 2, 0);
    }

    /** "CHARGES shown are heavier together than PROOFS shown". */
    private static void heavierTogether() {
        NettleShirts x = trial(of(4, 4), of(3, 9));
        lasts("the first charge", x, 4, 1, 0);
        lasts("both less the greater proof are not so heavy", x, 5, 4, 0);
        NettleShirts y = trial(of(4, 4), of(3, 3));
        lasts("both less a proof of 3 are 5", y, 5, 3, 0);
        lasts("but not 6", y, 6, 4, 0);
        NettleShirts z = trial(of(1, 9), of(9, 9));
        lasts("proofs may be heavier, charges gain on them", z, 1, 1, 0);
        lasts("by 2 the heavy one ends it", z, 2, 1, 1);
    }

    /** "it ends as soon as": nothing is shown behind that. */
    private static void itEndsAsSoonAs() {
        NettleShirts x = trial(of(9, 1, 1, 1), of(9, 9, 9, 9));
        lasts("the first one is enough", x, 9, 1, 0);
        lasts("it is not", x, 10, 8, 0);
    }

    /** "or one whose turn it is has none left": she. */
    private static void sheHasNoneLeft() {
        lasts("no proofs", trial(of(1, 1, 1, 1), NONE), 20, 1, 0);
        lasts("one proof", trial(of(1, 1, 1, 1), of(1)), 20, 3, 0);
        lasts("two proofs", trial(of(1, 1, 1, 1), of(1, 1)), 20, 5, 0);
        lasts("three proofs", trial(of(1, 1, 1, 1), of(1, 1, 1)), 20, 7, 0);
        lasts("four proofs", trial(of(1, 1, 1, 1), of(1, 1, 1, 1)), 20, 8, 0);
    }

    /** "or one whose turn it is has none left": the others. */
    private static void theOthersHaveNoneLeft() {
        lasts("no charges", trial(NONE, of(1, 1, 1, 1)), 20, 0, -1);
        lasts("one charge", trial(of(1), of(1, 1, 1, 1)), 20, 2, 0);
        lasts("two charges", trial(of(1, 1), of(1, 1, 1, 1)), 20, 4, 0);
        lasts("three charges", trial(of(1, 1, 1), of(1, 1, 1, 1)), 20, 6, 0);
        lasts("nothing at all", trial(NONE, NONE), 1, 0, -1);
    }

    /** "By turns, the others first". */
    private static void theOthersBegin() {
        lasts("a charge ends it ahead of her proof", trial(of(1), of(9)), 1, 1, 0);
        lasts("her proof is shown", trial(of(1), of(9)), 2, 2, 0);
    }

    /** "each shows one not shown yet". */
    private static void oneNotShownYet() {
        lasts("the heavy charge is shown once", trial(of(6, 1), of(1, 1)), 7, 4, 0);
        lasts("so is the heavy proof", trial(of(5, 5, 5), of(5, 1, 1)), 9, 5, 0);
    }

    /** "she plays so that most are". */
    private static void sheWantsMost() {
        lasts("the light one first would end it", trial(of(3, 4), of(1, 5)), 5, 4, 0);
        lasts("the light one first, told last", trial(of(3, 4), of(5, 1)), 5, 4, 0);
        lasts("neither keeps it on", trial(of(3, 4), of(1, 1)), 5, 3, 0);
    }

    /** "the others so that fewest". */
    private static void theOthersWantFewest() {
        lasts("the heavy one, told last", trial(of(1, 9), of(5, 5)), 9, 1, 1);
        lasts("the heavy one, told first", trial(of(9, 1), of(5, 5)), 9, 1, 0);
        lasts("two heavy ones ahead of the light ones", trial(of(1, 8, 1, 8), of(4, 4, 4, 4)), 12, 3, 1);
    }

    /** "of like ones the least number". */
    private static void ofLikeChargesTheLeast() {
        lasts("all are like", trial(of(2, 2, 2, 2), of(1)), 20, 3, 0);
        lasts("of another weight, but like", trial(of(1, 2, 3), of(9)), 20, 3, 0);
        lasts("two of them end it", trial(of(1, 7, 8, 9), of(9)), 7, 1, 1);
        lasts("one of them ends it", trial(of(1, 7, 8, 9), of(9)), 9, 1, 3);
        lasts("none of them ends it", trial(of(1, 7, 8, 9), of(9)), 10, 3, 0);
    }

    /** "none: they have none". */
    private static void noChargeOfNone() {
        NettleShirts x = trial(NONE, of(1));
        lasts("none", x, 1, 0, -1);
        x.show(0, 1);
        lasts("one", x, 1, 1, 0);
    }

    /** "LASTS (0), WHICH CHARGE (1; NONE). BAD." */
    private static void lastsHasTwo() {
        NettleShirts x = trial(of(1), of(1));
        Edge.bad("lasts what -1", x, () -> x.lasts(1, -1));
        Edge.bad("lasts what 2", x, () -> x.lasts(1, 2));
        for (int far : Edge.far()) {
            Edge.bad("lasts what " + far, x, () -> x.lasts(1, far));
        }
    }
}
