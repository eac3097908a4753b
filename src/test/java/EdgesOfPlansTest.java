/** Each sentence of the promises 9 to 16, and of what Terms say of plans, stings and BARE, that names a boundary. */
public final class EdgesOfPlansTest {
    public static void main(String[] args) {
        aPlanHas0To5Nights();
        thePlansNightsAreAskedFrom0();
        ofLikePlansTheFirst();
        aPlanIsOfTheNightsThereAre();
        aPlanIsFromNow();
        aPlanGoesByTheNightsNumbers();
        restIsWorthANight();
        aPlanOfFourShirts();
        inTimeHas0To5Nights();
        inTimeNightsAreAskedFrom0();
        inTimeIsOfShirtsThereAre();
        inTimeIsAllSewn();
        inTimeIsMostOfThose();
        fewestIs0To5();
        fewestIsOfShirtsThereAre();
        leftIsBehind0To5Nights();
        leftOfLikeShirtsTheLeast();
        leftOfNoShirts();
        leftHasTwo();
        stingsOf0To10();
        picksAre0To12();
        fewerThan0To13();
        theFractionIsInLowestTerms();
        refusedStingsLeaveTheFraction();
        surestIsAtLeastAByB();
        surestIsOf0To12();
        surestOfNone();
        aAndBAre1To99();
        aIsNoMoreThanB();
        surestChancesAreAsTold();
        toldIs0To20();
        toldIsOfPlotsThereAre();
        toldIs0AtFirst();
        bareHas0To4Nights();
        bareIsJustThat();
        bareIsOfAllPlots();
        bareIsOfPickAndRest();
        bareFirstIsHighest();
        bareOfNoPlots();
        bareHasTwo();
        bareWithoutARowIsNo();
        Check.end();
    }

    /** Two nights are lost for picking, three sew 3, 3 and 2. */
    private static NettleShirts richAndAShirtOf(int parts) {
        NettleShirts x = new NettleShirts();
        x.plot(2, 20);
        x.shirt(parts);
        return x;
    }

    /** "PLAN of m NIGHTS (0 .. 5)"; "BAD: -10." */
    private static void aPlanHas0To5Nights() {
        NettleShirts x = richAndAShirtOf(12);
        int[] most = {0, 0, 3, 4, 6, 8};
        for (int m = 0; m <= 5; m++) {
            int nights = m;
            Edge.fine("plan of " + m, x, () -> x.plan(nights, -1), most[m]);
        }
        Edge.badAsked("plan of -1", x, () -> x.plan(-1, -1));
        Edge.badAsked("plan of 6", x, () -> x.plan(6, -1));
        for (int far : Edge.far()) {
            Edge.badAsked("plan of " + far, x, () -> x.plan(far, -1));
        }
    }

    /** "how many (i = NONE), the i-th NIGHT. -5: not so many." */
    private static void thePlansNightsAreAskedFrom0() {
        NettleShirts x = richAndAShirtOf(12);
        int[][] nights = {{}, {0}, {0, 3}, {0, 3, 3}, {0, 0, 3, 3}, {0, 0, 3, 3, 3}};
        for (int m = 0; m <= 5; m++) {
            int of = m;
            for (int i = 0; i < m; i++) {
                int at = i;
                Edge.fine("night " + i + " of " + m, x, () -> x.plan(of, at), nights[m][i]);
            }
            Edge.fine("night " + m + " of " + m, x, () -> x.plan(of, of), -5);
            Edge.fine("night " + (m + 1) + " of " + m, x, () -> x.plan(of, of + 1), -5);
        }
        Edge.fine("a far one", x, () -> x.plan(5, Integer.MAX_VALUE), -5);
        Edge.badAsked("below NONE", x, () -> x.plan(5, -2));
        Edge.badAsked("the least", x, () -> x.plan(5, Integer.MIN_VALUE));
        Edge.badAsked("a bad m ahead of not so many", x, () -> x.plan(6, 6));
    }

    /** "of like ones the first (NIGHT by NIGHT)". */
    private static void ofLikePlansTheFirst() {
        NettleShirts x = new NettleShirts();
        x.plot(1, 3);
        x.plot(1, 3);
        x.shirt(3);
        x.shirt(3);
        plan("like plots, like shirts", x, 2, 3, 0, 3);
        plan("the spare night is the first one there is", x, 3, 3, 0, 0, 3);
        plan("a plot picked bare gives way to the next", x, 4, 6, 0, 1, 3, 4);
        x.night(1);
        plan("what is left to choose is the last night", x, 1, 3, 3);
        x.night(3);
        plan("a spare night at the end is not put off", x, 3, 3, 0, 0, 4);
        NettleShirts y = new NettleShirts();
        plan("with nothing to sew all are like", y, 3, 0, 7, 7, 7);
        y.shirt(1);
        plan("a shirt is ahead of rest", y, 2, 0, 3, 3);
        y.plot(0, 0);
        plan("a plot is ahead of a shirt", y, 2, 0, 0, 0);
    }

    private static void plan(String what, NettleShirts x, int m, int most, int... nights) {
        Check.due(what + ": most", x.plan(m, -1), most);
        for (int i = 0; i < nights.length; i++) {
            Check.due(what + ": night " + i, x.plan(m, i), nights[i]);
        }
    }

    /** "of those that there are". */
    private static void aPlanIsOfTheNightsThereAre() {
        NettleShirts x = new NettleShirts();
        x.shirt(1);
        x.shirt(1);
        x.shirt(1);
        x.shirt(12);
        plan("no plots", x, 5, 0, 3, 3, 3, 3, 3);
        x.plot(1, 0);
        x.plot(1, 0);
        x.plot(1, 20);
        plan("the last plot and the last shirt", x, 2, 3, 2, 6);
        plan("of four nights", x, 4, 6, 2, 2, 6, 6);
    }

    /** "from now": the stock, the hurt and the night's number of now. */
    private static void aPlanIsFromNow() {
        NettleShirts x = new NettleShirts();
        x.plot(4, 20);
        x.plot(3, 0);
        x.shirt(12);
        plan("night 0 is not watched", x, 2, 3, 0, 3);
        x.night(7);
        x.night(7);
        plan("night 2 is", x, 2, 0, 0, 0);
        x.night(7);
        x.night(0);
        plan("stock is there", x, 1, 3, 3);
        x.night(1);
        plan("hurt is there", x, 1, 2, 3);
        x.night(1);
        x.night(1);
        plan("too much of it", x, 1, 0, 0);
        plan("rest, then sew", x, 2, 1, 7, 3);
    }

    /** "none in NIGHTS of which the number by 3 leaves 2": of the nights to come. */
    private static void aPlanGoesByTheNightsNumbers() {
        int[][] most = {{0, 3, 3, 6, 6}, {0, 3, 3, 6, 6}, {0, 0, 3, 3, 6}};
        for (int number = 0; number < 9; number++) {
            NettleShirts x = new NettleShirts();
            x.plot(4, 20);
            x.shirt(12);
            for (int k = 0; k < number; k++) {
                x.night(7);
            }
            for (int m = 1; m <= 5; m++) {
                Check.due("most of " + m + " from night " + number, x.plan(m, -1), most[number % 3][m - 1]);
            }
            Check.due("first of two from night " + number, x.plan(2, 0), 0);
        }
    }

    /** "HURT is 2 less": a night of rest is tried even behind a night that only hurts. */
    private static void restIsWorthANight() {
        NettleShirts x = new NettleShirts();
        x.plot(0, 0);
        x.plot(1, 20);
        x.shirt(12);
        for (int k = 0; k < 5; k++) {
            x.night(1);
        }
        for (int k = 0; k < 4; k++) {
            x.night(0);
        }
        Check.due("hurt", x.has(1), 4);
        plan("one night", x, 1, 2, 3);
        plan("two nights", x, 2, 4, 3, 3);
        plan("three nights", x, 3, 6, 3, 3, 3);
        plan("four nights", x, 4, 9, 7, 3, 3, 3);
        plan("five nights", x, 5, 12, 7, 3, 3, 3, 3);
    }

    /** All that four shirts lack, and which of them is sewn. */
    private static void aPlanOfFourShirts() {
        NettleShirts x = new NettleShirts();
        x.plot(1, 20);
        x.shirt(1);
        x.shirt(2);
        x.shirt(3);
        x.shirt(12);
        Edge.fine("all is left", x, () -> x.left(0, 0), 18);
        Edge.fine("most of the last", x, () -> x.left(0, 1), 3);
        plan("three parts at once", x, 2, 3, 0, 5);
        for (int k = 0; k < 6; k++) {
            x.night(0);
        }
        plan("with stock", x, 5, 15, 5, 6, 6, 6, 6);
        Edge.fine("left behind it", x, () -> x.left(5, 0), 3);
        Edge.fine("most of shirt 1", x, () -> x.left(5, 1), 1);
        inTime("the first two in time", x, 4, 3, 9, 3, 4, 5, 6);
        inTime("all but the last", x, 3, 7, 6, 3, 4, 5);
    }

    /** IN TIME, "the same"; "BAD: -10." */
    private static void inTimeHas0To5Nights() {
        NettleShirts x = richAndAShirtOf(4);
        int[] most = {-1, -1, -1, 4, 4, 4};
        for (int m = 0; m <= 5; m++) {
            int nights = m;
            Edge.fine("in time by " + m, x, () -> x.inTime(nights, 1, -1), most[m]);
        }
        Edge.badAsked("in time by -1", x, () -> x.inTime(-1, 1, -1));
        Edge.badAsked("in time by 6", x, () -> x.inTime(6, 1, -1));
        for (int far : Edge.far()) {
            Edge.badAsked("in time by " + far, x, () -> x.inTime(far, 1, -1));
        }
    }

    /** "how many (i = NONE), the i-th NIGHT. -5: not so many. NONE: none." */
    private static void inTimeNightsAreAskedFrom0() {
        NettleShirts x = richAndAShirtOf(4);
        int[] nights = {0, 3, 3};
        for (int i = 0; i < 3; i++) {
            int at = i;
            Edge.fine("night " + i, x, () -> x.inTime(3, 1, at), nights[i]);
        }
        Edge.fine("night 3 of 3", x, () -> x.inTime(3, 1, 3), -5);
        Edge.fine("night 4 of 3", x, () -> x.inTime(3, 1, 4), -5);
        Edge.fine("a far one", x, () -> x.inTime(3, 1, Integer.MAX_VALUE), -5);
        Edge.fine("night 0 of 0, nothing asked for", x, () -> x.inTime(0, 0, 0), -5);
        Edge.fine("none: how many", x, () -> x.inTime(2, 1, -1), -1);
        Edge.fine("none: its first", x, () -> x.inTime(2, 1, 0), -1);
        Edge.fine("none: beyond it", x, () -> x.inTime(2, 1, 2), -1);
        Edge.badAsked("below NONE", x, () -> x.inTime(3, 1, -2));
        Edge.badAsked("below NONE, where there is none", x, () -> x.inTime(2, 1, -2));
        Edge.badAsked("the least", x, () -> x.inTime(3, 1, Integer.MIN_VALUE));
    }

    /** "some SHIRTS (bits)", of those that there are. */
    private static void inTimeIsOfShirtsThereAre() {
        for (int shirts = 0; shirts <= 4; shirts++) {
            NettleShirts x = new NettleShirts();
            x.plot(1, 20);
            for (int k = 0; k < shirts; k++) {
                x.shirt(1);
            }
            int all = (1 << shirts) - 1;
            Edge.fine("none of " + shirts, x, () -> x.inTime(0, 0, -1), 0);
            Edge.fine("all of " + shirts, x, () -> x.inTime(5, all, -1), shirts < 4 ? shirts : -1);
            Edge.badAsked("one more than " + shirts, x, () -> x.inTime(5, all + 1, -1));
            Edge.badAsked("-1 of " + shirts, x, () -> x.inTime(5, -1, -1));
            for (int far : Edge.far()) {
                Edge.badAsked(far + " of " + shirts, x, () -> x.inTime(5, far, -1));
            }
        }
    }

    /** "by which some SHIRTS are all sewn behind them". */
    private static void inTimeIsAllSewn() {
        int[][] due = {{3, 2}, {4, 3}, {6, 4}, {7, 5}, {8, 5}};
        for (int[] d : due) {
            NettleShirts x = richAndAShirtOf(d[0]);
            Check.due(d[0] + " parts, a night too few", x.inTime(d[1] - 1, 1, -1), -1);
            Check.due(d[0] + " parts in just so many", x.inTime(d[1], 1, -1), d[0]);
            Check.due(d[0] + " parts and one more", richAndAShirtOf(d[0] + 1).inTime(d[1], 1, -1),
                d[1] == 5 && d[0] == 7 ? 8 : -1);
        }
        NettleShirts y = richAndAShirtOf(4);
        y.night(0);
        y.night(3);
        Check.due("a part lacks", y.inTime(0, 1, -1), -1);
        y.night(3);
        Check.due("done already", y.inTime(0, 1, -1), 0);
        Check.due("and stays so", y.inTime(3, 1, -1), 0);
        Check.due("by the first night there is", y.inTime(3, 1, 2), 0);
    }

    /** "the same of those": the most of those by which they are sewn, the first of like ones. */
    private static void inTimeIsMostOfThose() {
        NettleShirts x = new NettleShirts();
        x.plot(2, 20);
        x.shirt(12);
        x.shirt(1);
        plan("without it", x, 3, 4, 0, 3, 3);
        inTime("with it", x, 3, 2, 4, 0, 3, 4);
        plan("without it in two", x, 2, 3, 0, 3);
        inTime("with it in two", x, 2, 2, 1, 0, 4);
        inTime("none told is the plan", x, 3, 0, 4, 0, 3, 3);
    }

    private static void inTime(String what, NettleShirts x, int m, int some, int most, int... nights) {
        Check.due(what + ": most", x.inTime(m, some, -1), most);
        for (int i = 0; i < nights.length; i++) {
            Check.due(what + ": night " + i, x.inTime(m, some, i), nights[i]);
        }
    }

    /** "FEWEST NIGHTS (0 .. 5) behind which some can be so; none." */
    private static void fewestIs0To5() {
        int[] due = {-1, 2, 2, 2, 3, 4, 4, 5, 5, -1, -1, -1, -1};
        for (int parts = 1; parts <= 12; parts++) {
            NettleShirts x = richAndAShirtOf(parts);
            Edge.fine("fewest for " + parts, x, () -> x.fewest(1), due[parts]);
            Edge.fine("fewest for none", x, () -> x.fewest(0), 0);
        }
        NettleShirts y = richAndAShirtOf(2);
        y.night(0);
        Check.due("one is enough", y.fewest(1), 1);
        y.night(3);
        Check.due("none is enough", y.fewest(1), 0);
    }

    /** "some": bits of shirts that there are; "BAD." */
    private static void fewestIsOfShirtsThereAre() {
        for (int shirts = 0; shirts <= 4; shirts++) {
            NettleShirts x = new NettleShirts();
            x.plot(1, 20);
            for (int k = 0; k < shirts; k++) {
                x.shirt(1);
            }
            int all = (1 << shirts) - 1;
            int[] due = {0, 2, 3, 4, -1};
            Edge.fine("all of " + shirts, x, () -> x.fewest(all), due[shirts]);
            Edge.bad("one more than " + shirts, x, () -> x.fewest(all + 1));
            Edge.bad("-1 of " + shirts, x, () -> x.fewest(-1));
            for (int far : Edge.far()) {
                Edge.bad(far + " of " + shirts, x, () -> x.fewest(far));
            }
        }
        NettleShirts y = new NettleShirts();
        for (int k = 0; k < 4; k++) {
            y.shirt(1);
        }
        y.plot(2, 20);
        y.night(0);
        Check.due("four shirts with stock", y.fewest(15), 4);
        Check.due("the last one alone", y.fewest(8), 1);
    }

    /** "PARTS that are not sewn behind the PLAN of m NIGHTS"; "BAD: -10." */
    private static void leftIsBehind0To5Nights() {
        NettleShirts x = richAndAShirtOf(12);
        int[] left = {12, 12, 9, 8, 6, 4};
        for (int m = 0; m <= 5; m++) {
            int nights = m;
            Edge.fine("left behind " + m, x, () -> x.left(nights, 0), left[m]);
        }
        Edge.badAsked("left behind -1", x, () -> x.left(-1, 0));
        Edge.badAsked("left behind 6", x, () -> x.left(6, 0));
        for (int far : Edge.far()) {
            Edge.badAsked("left behind " + far, x, () -> x.left(far, 0));
        }
        Check.due("none is left of 3", richAndAShirtOf(3).left(2, 0), 0);
        Check.due("one is left of 4", richAndAShirtOf(4).left(2, 0), 1);
    }

    /** "of which SHIRT most (of like ones the least ..)". */
    private static void leftOfLikeShirtsTheLeast() {
        mostLeft("like ones", 0, 0, 5, 5);
        mostLeft("one more", 1, 0, 5, 6);
        mostLeft("one less", 0, 0, 6, 5);
        mostLeft("the last of four", 3, 0, 1, 1, 1, 2);
        mostLeft("the middle two", 1, 0, 3, 4, 4, 3);
        mostLeft("three sewn make them like", 0, 2, 8, 5);
        mostLeft("three sewn make it less", 1, 2, 8, 6);
        mostLeft("three sewn are not enough", 0, 2, 8, 4);
        mostLeft("none is left of any", 0, 2, 3);
    }

    private static void mostLeft(String what, int due, int m, int... shirts) {
        NettleShirts x = new NettleShirts();
        x.plot(1, 20);
        for (int parts : shirts) {
            x.shirt(parts);
        }
        Edge.fine(what, x, () -> x.left(m, 1), due);
    }

    /** "none: no SHIRTS". */
    private static void leftOfNoShirts() {
        NettleShirts x = new NettleShirts();
        x.plot(0, 20);
        for (int m = 0; m <= 5; m++) {
            int nights = m;
            Edge.fine("no shirts, " + m, x, () -> x.left(nights, 1), -1);
            Edge.fine("no parts, " + m, x, () -> x.left(nights, 0), 0);
        }
        x.shirt(1);
        Edge.fine("one shirt", x, () -> x.left(0, 1), 0);
    }

    /** "PARTS (0), the SHIRT (1; NONE). BAD: -10." */
    private static void leftHasTwo() {
        NettleShirts x = richAndAShirtOf(12);
        Edge.badAsked("left what -1", x, () -> x.left(0, -1));
        Edge.badAsked("left what 2", x, () -> x.left(0, 2));
        for (int far : Edge.far()) {
            Edge.badAsked("left what " + far, x, () -> x.left(0, far));
        }
    }

    private static void fraction(int n, int k, int l, long above, long below) {
        NettleShirts x = new NettleShirts();
        String call = "stings(" + n + ", " + k + ", " + l + ")";
        Edge.fine(call, x, () -> x.stings(n, k, l), 1);
        Edge.fine(call + ", above", x, () -> x.part(0), above);
        Edge.fine(call + ", below", x, () -> x.part(1), below);
    }

    private static void badStings(int n, int k, int l) {
        NettleShirts x = new NettleShirts();
        Edge.bad("stings(" + n + ", " + k + ", " + l + ")", x, () -> x.stings(n, k, l));
    }

    /** "each PICK stings with n of 10 (0 .. 10)". */
    private static void stingsOf0To10() {
        badStings(-1, 1, 1);
        fraction(0, 1, 1, 1, 1);
        fraction(1, 1, 1, 9, 10);
        fraction(9, 1, 1, 1, 10);
        fraction(10, 1, 1, 0, 1);
        badStings(11, 1, 1);
        for (int far : Edge.far()) {
            badStings(far, 1, 1);
        }
    }

    /** "of k PICKS (0 .. 12)". */
    private static void picksAre0To12() {
        badStings(1, -1, 1);
        fraction(1, 0, 1, 1, 1);
        fraction(1, 1, 1, 9, 10);
        fraction(1, 11, 1, 31381059609L, 100000000000L);
        fraction(1, 12, 1, 282429536481L, 1000000000000L);
        badStings(1, 13, 1);
        for (int far : Edge.far()) {
            badStings(1, far, 1);
        }
    }

    /** "fewer than l (0 .. 13) sting". */
    private static void fewerThan0To13() {
        badStings(3, 2, -1);
        fraction(3, 2, 0, 0, 1);
        fraction(3, 2, 1, 49, 100);
        fraction(3, 2, 2, 91, 100);
        fraction(3, 2, 3, 1, 1);
        fraction(3, 2, 4, 1, 1);
        fraction(3, 2, 13, 1, 1);
        badStings(3, 2, 14);
        fraction(3, 0, 0, 0, 1);
        fraction(3, 0, 1, 1, 1);
        fraction(1, 12, 12, 999999999999L, 1000000000000L);
        fraction(1, 12, 13, 1, 1);
        fraction(10, 12, 12, 0, 1);
        fraction(10, 12, 13, 1, 1);
        fraction(0, 12, 0, 0, 1);
        fraction(0, 12, 1, 1, 1);
        for (int far : Edge.far()) {
            badStings(3, 2, far);
        }
    }

    /** "lowest terms, below above 0". */
    private static void theFractionIsInLowestTerms() {
        fraction(5, 2, 1, 1, 4);
        fraction(5, 2, 2, 3, 4);
        fraction(5, 12, 1, 1, 4096);
        fraction(5, 12, 12, 4095, 4096);
        fraction(2, 3, 1, 64, 125);
        fraction(4, 3, 2, 81, 125);
        fraction(8, 12, 1, 1, 244140625);
        fraction(2, 12, 1, 16777216, 244140625);
        fraction(3, 12, 0, 0, 1);
    }

    /** "Refused, changing nothing but STATUS". */
    private static void refusedStingsLeaveTheFraction() {
        NettleShirts x = new NettleShirts();
        x.stings(3, 2, 1);
        Edge.bad("n", x, () -> x.stings(11, 2, 1));
        Edge.bad("k", x, () -> x.stings(3, 13, 1));
        Edge.bad("l", x, () -> x.stings(3, 2, 14));
        Edge.bad("surest", x, () -> x.surest(3, 2, 2, 1));
        Edge.fine("surest as told", x, () -> x.surest(5, 1, 1, 2), 1);
        Check.due("above", x.part(0), 49);
        Check.due("below", x.part(1), 100);
    }

    private static void surest(int n, int l, int a, int b, int due) {
        NettleShirts x = new NettleShirts();
        Edge.fine("surest(" + n + ", " + l + ", " + a + ", " + b + ")", x, () -> x.surest(n, l, a, b), due);
    }

    private static void badSurest(int n, int l, int a, int b) {
        NettleShirts x = new NettleShirts();
        Edge.bad("surest(" + n + ", " + l + ", " + a + ", " + b + ")", x, () -> x.surest(n, l, a, b));
    }

    /** "the greatest k .. for which that is at least a by b". */
    private static void surestIsAtLeastAByB() {
        surest(5, 1, 49, 99, 1);
        surest(5, 1, 1, 2, 1);
        surest(5, 1, 50, 99, 0);
        surest(5, 1, 24, 99, 2);
        surest(5, 1, 1, 4, 2);
        surest(5, 1, 25, 99, 1);
        surest(1, 1, 80, 99, 2);
        surest(1, 1, 81, 99, 1);
        surest(9, 1, 1, 10, 1);
        surest(9, 1, 9, 91, 1);
        surest(9, 1, 10, 99, 0);
        surest(5, 2, 3, 4, 2);
        surest(5, 2, 74, 99, 2);
        surest(5, 2, 75, 99, 1);
    }

    /** "k of 0 to 12". */
    private static void surestIsOf0To12() {
        surest(10, 1, 1, 99, 0);
        surest(10, 2, 1, 99, 1);
        surest(10, 12, 1, 99, 11);
        surest(10, 13, 1, 99, 12);
        surest(10, 13, 1, 1, 12);
        surest(0, 1, 99, 99, 12);
        surest(1, 1, 27, 99, 12);
        surest(1, 1, 28, 99, 11);
        surest(1, 1, 31, 99, 11);
        surest(1, 1, 32, 99, 10);
        surest(1, 2, 65, 99, 12);
        surest(1, 2, 66, 99, 11);
    }

    /** "none". */
    private static void surestOfNone() {
        surest(0, 0, 1, 99, -1);
        surest(10, 0, 1, 1, -1);
        surest(5, 0, 1, 99, -1);
        surest(10, 1, 1, 1, 0);
    }

    /** "a by b (1 .. 99 each ..)". */
    private static void aAndBAre1To99() {
        badSurest(5, 1, 0, 1);
        badSurest(5, 1, 0, 0);
        badSurest(5, 1, -1, 1);
        badSurest(5, 1, -1, -1);
        surest(5, 1, 1, 1, 0);
        surest(5, 1, 1, 98, 6);
        surest(5, 1, 1, 99, 6);
        surest(5, 1, 98, 99, 0);
        surest(5, 1, 99, 99, 0);
        badSurest(5, 1, 1, 100);
        badSurest(5, 1, 99, 100);
        badSurest(5, 1, 100, 100);
        badSurest(5, 1, 1, 0);
        badSurest(5, 1, 1, -1);
        for (int far : Edge.far()) {
            badSurest(5, 1, far, 99);
            badSurest(5, 1, 1, far);
            badSurest(5, 1, far, far);
        }
    }

    /** "a no more than b". */
    private static void aIsNoMoreThanB() {
        surest(5, 1, 49, 50, 0);
        surest(5, 1, 50, 50, 0);
        badSurest(5, 1, 51, 50);
        badSurest(5, 1, 2, 1);
        badSurest(5, 1, 99, 98);
    }

    /** n 0 .. 10 and l 0 .. 13 as for STINGS; "BAD." */
    private static void surestChancesAreAsTold() {
        badSurest(-1, 1, 1, 2);
        surest(0, 1, 1, 2, 12);
        surest(1, 1, 1, 2, 6);
        surest(9, 1, 1, 2, 0);
        surest(10, 1, 1, 2, 0);
        badSurest(11, 1, 1, 2);
        badSurest(5, -1, 1, 2);
        surest(5, 0, 1, 2, -1);
        surest(5, 12, 1, 2, 12);
        surest(5, 13, 1, 2, 12);
        badSurest(5, 14, 1, 2);
        for (int far : Edge.far()) {
            badSurest(far, 1, 1, 2);
            badSurest(5, far, 1, 2);
        }
    }

    /** "NETTLES told of each PLOT (0 .. 20 each ..)": "what they were". */
    private static void toldIs0To20() {
        NettleShirts x = new NettleShirts();
        x.plot(0, 5);
        int was = 0;
        for (int n : new int[] {1, 0, 19, 20, 20}) {
            int before = was;
            Edge.fine("told " + n, x, () -> x.told(0, n), before);
            was = n;
        }
        Edge.bad("told -1", x, () -> x.told(0, -1));
        Edge.bad("told 21", x, () -> x.told(0, 21));
        for (int far : Edge.far()) {
            Edge.bad("told " + far, x, () -> x.told(0, far));
        }
        Edge.fine("still as told", x, () -> x.told(0, 0), 20);
    }

    /** "of a PLOT. BAD." */
    private static void toldIsOfPlotsThereAre() {
        for (int plots = 0; plots <= 3; plots++) {
            NettleShirts x = new NettleShirts();
            for (int k = 0; k < plots; k++) {
                x.plot(0, 5);
            }
            for (int k = 0; k < plots; k++) {
                int plot = k;
                Edge.fine("told of " + k, x, () -> x.told(plot, 7 + plot), 0);
            }
            for (int k = 0; k < plots; k++) {
                int plot = k;
                Edge.fine("each has its own", x, () -> x.told(plot, 1), 7 + k);
            }
            int beyond = plots;
            Edge.bad("told of -1", x, () -> x.told(-1, 1));
            Edge.bad("told beyond " + plots, x, () -> x.told(beyond, 1));
            for (int far : Edge.far()) {
                Edge.bad("told of " + far, x, () -> x.told(far, 1));
            }
        }
    }

    /** "0 at first": of a plot that came anew too. */
    private static void toldIs0AtFirst() {
        NettleShirts x = new NettleShirts();
        x.plot(0, 5);
        x.told(0, 9);
        x.read();
        x.plot(0, 5);
        Edge.fine("anew", x, () -> x.told(0, 1), 0);
        NettleShirts y = new NettleShirts();
        y.image(0);
        y.plot(0, 5);
        y.told(0, 9);
        y.from(0);
        y.plot(0, 5);
        Edge.fine("from an image without it", y, () -> y.told(0, 1), 0);
    }

    /** "rows of m NIGHTS (0 .. 4)". */
    private static void bareHas0To4Nights() {
        NettleShirts x = new NettleShirts();
        x.plot(1, 0);
        int[] rows = {1, 2, 4, 8, 16};
        for (int m = 0; m <= 4; m++) {
            int nights = m;
            Edge.fine("bare behind " + m, x, () -> x.bare(nights, 0), rows[m]);
            Edge.fine("first behind " + m, x, () -> x.bare(nights, 1), 0);
        }
        Edge.bad("bare behind -1", x, () -> x.bare(-1, 0));
        Edge.bad("bare behind 5", x, () -> x.bare(5, 0));
        for (int far : Edge.far()) {
            Edge.bad("bare behind " + far, x, () -> x.bare(far, 0));
        }
    }

    /** "behind which all PLOTS have just that". */
    private static void bareIsJustThat() {
        NettleShirts x = new NettleShirts();
        x.plot(0, 10);
        int[] rows = {0, 0, 0, 0, 0, 0, 0, 0, 1, 0, 1, 0};
        for (int n = 7; n <= 11; n++) {
            x.told(0, n);
            int due = rows[n];
            Edge.fine("one night to " + n, x, () -> x.bare(1, 0), due);
        }
        x.told(0, 9);
        Edge.fine("one now", x, () -> x.bare(0, 0), 0);
        x.told(0, 10);
        Edge.fine("as it is", x, () -> x.bare(0, 0), 1);
        x.told(0, 11);
        Edge.fine("more than it is", x, () -> x.bare(0, 0), 0);
    }

    /** "all PLOTS": none may differ. */
    private static void bareIsOfAllPlots() {
        NettleShirts x = new NettleShirts();
        for (int k = 0; k < 3; k++) {
            x.plot(1, 4 + k);
        }
        int[] there = {4, 5, 6};
        tell(x, there);
        Edge.fine("all as told", x, () -> x.bare(0, 0), 1);
        for (int k = 0; k < 3; k++) {
            int[] other = there.clone();
            other[k]--;
            tell(x, other);
            Edge.fine("plot " + k + " has one more", x, () -> x.bare(0, 0), 0);
            other[k] = there[k] - 3;
            tell(x, other);
            Edge.fine("plot " + k + " is picked", x, () -> x.bare(1, 0), 1);
            Edge.fine("by its number", x, () -> x.bare(1, 1), other[0] < 4 ? 0 : other[1] < 5 ? 1 : 2);
        }
    }

    private static void tell(NettleShirts x, int[] nettles) {
        for (int k = 0; k < nettles.length; k++) {
            x.told(k, nettles[k]);
        }
    }

    /** "of PICK, or REST": no sewing; picks for which STOCK has no room too. */
    private static void bareIsOfPickAndRest() {
        NettleShirts x = new NettleShirts();
        x.plot(1, 0);
        x.plot(1, 0);
        x.plot(1, 0);
        for (int k = 0; k < 4; k++) {
            x.shirt(12);
        }
        Edge.fine("three plots and rest", x, () -> x.bare(1, 0), 4);
        Edge.fine("four nights of four", x, () -> x.bare(4, 0), 256);
        NettleShirts y = new NettleShirts();
        y.plot(2, 20);
        y.plot(2, 20);
        for (int k = 0; k < 7; k++) {
            y.night(k % 2);
        }
        Check.due("stock", y.has(0), 28);
        y.told(0, y.nettles(0) - 1);
        y.told(1, y.nettles(1) + 1);
        Edge.fine("room for two", y, () -> y.bare(1, 0), 1);
        Edge.fine("picked at the first", y, () -> y.bare(1, 1), 0);
        y.told(0, y.nettles(0) - 3);
        Edge.fine("not for four", y, () -> y.bare(1, 0), 0);
    }

    /** "the first as a number (digits to the base 8, the first NIGHT highest)". */
    private static void bareFirstIsHighest() {
        NettleShirts x = new NettleShirts();
        x.plot(1, 9);
        x.plot(1, 9);
        x.told(0, 7);
        x.told(1, 9);
        Edge.fine("picked in night 0 or in night 1, grown in night 1", x, () -> x.bare(2, 0), 2);
        Edge.fine("night 0 is the first", x, () -> x.bare(2, 1), 007);
        x.told(0, 6);
        Edge.fine("picked in the last of three", x, () -> x.bare(3, 1), 0770);
        x.told(0, 7);
        Edge.fine("in the first or the second of three", x, () -> x.bare(3, 0), 2);
        Edge.fine("the first of those", x, () -> x.bare(3, 1), 0077);
        x.told(1, 7);
        Edge.fine("both, in either order", x, () -> x.bare(3, 0), 2);
        Edge.fine("the first plot first", x, () -> x.bare(3, 1), 0017);
        x.told(0, 9);
        x.told(1, 9);
        Edge.fine("the greatest number", x, () -> x.bare(4, 1), 07777);
    }

    /** All plots of none have just that. */
    private static void bareOfNoPlots() {
        NettleShirts x = new NettleShirts();
        int[] first = {0, 7, 077, 0777, 07777};
        for (int m = 0; m <= 4; m++) {
            int nights = m;
            Edge.fine("one row of " + m, x, () -> x.bare(nights, 0), 1);
            Edge.fine("of rests alone", x, () -> x.bare(nights, 1), first[m]);
        }
    }

    /** "how many (0), the first (1). BAD". */
    private static void bareHasTwo() {
        NettleShirts x = new NettleShirts();
        Edge.bad("bare what -1", x, () -> x.bare(0, -1));
        Edge.bad("bare what 2", x, () -> x.bare(0, 2));
        for (int far : Edge.far()) {
            Edge.bad("bare what " + far, x, () -> x.bare(0, far));
        }
    }

    /** "NO: none but for 0." */
    private static void bareWithoutARowIsNo() {
        NettleShirts x = new NettleShirts();
        x.plot(0, 1);
        for (int m = 0; m <= 4; m++) {
            int nights = m;
            Edge.fine("how many behind " + m, x, () -> x.bare(nights, 0), 0);
            Edge.no("the first behind " + m, x, () -> x.bare(nights, 1));
        }
        Edge.bad("BAD ahead of NO", x, () -> x.bare(5, 1));
        Edge.bad("BAD ahead of NO, by what", x, () -> x.bare(4, 2));
    }
}
