/** Each sentence of the promises 1 to 8, and of what Terms say of plots, shirts and nights, that names a boundary. */
public final class EdgesOfPlotsTest {
    private static final int[] HURTS = {1, 0, 1, 3, 0, 1};
    private static final int[] PICKS = {3, 3, 4, 4, 3, 2};

    public static void main(String[] args) {
        nothingIsToldAtFirst();
        plotsAreThree();
        kindsAreSix();
        nettlesAre0To20();
        mostIsWhatThereWasAtFirst();
        shirtsAreFour();
        partsAre1To12();
        stockHas30AtMost();
        hurtIs9AtMost();
        hurtIs0AtLeast();
        nightsHaveNumbersFrom0();
        noMoreArePickedThanAreThere();
        whoPicksNoneIsHurtAllTheSame();
        sewnIs3LessHurtBy3();
        noMoreIsSewnThanItLacks();
        noMoreIsSewnThanStockHas();
        eachPartTakesOneOfStock();
        plotsGrowUpToTheirMost();
        shadyGrowsInOddNights();
        watchedIsNotPickedInEveryThirdNight();
        youngIsHalfOfRich();
        everyPlotGrowsBehindEveryNight();
        nightsThereAreByPlots();
        nightsThereAreByShirts();
        restIsAlwaysThere();
        twelveNightsMayBeUndone();
        undoIsAsAheadOfTheNight();
        aPlotLeavesNoneToUndo();
        aShirtLeavesNoneToUndo();
        nettlesOfPlotsThereAre();
        sewnOfShirtsThereAre();
        hasTwo();
        the512thCallIsStillAnswered();
        Check.end();
    }

    /** A plot that hurts by 3 and one that hurts by 1, both bare, so that stock stays as it is. */
    private static NettleShirts withBarePlots() {
        NettleShirts x = new NettleShirts();
        x.plot(3, 0);
        x.plot(0, 0);
        return x;
    }

    private static void hurt(NettleShirts x, int hurt) {
        for (int k = 0; k < hurt / 3; k++) {
            x.night(0);
        }
        for (int k = 0; k < hurt % 3; k++) {
            x.night(1);
        }
        Check.due("hurt is set", x.has(1), hurt);
    }

    /** Plots 0 and 1 are shady, so that nobody is hurt by picking there; plot 2 is of a told kind, not picked yet. */
    private static NettleShirts withStock(int stock, int kind) {
        NettleShirts x = new NettleShirts();
        x.plot(1, 20);
        x.plot(1, stock % 3);
        x.plot(kind, 20);
        x.night(1);
        for (int k = 0; k < 100 && x.has(0) < stock; k++) {
            x.night(x.nettles(0) >= 3 ? 0 : 7);
        }
        Check.due("stock is set", x.has(0), stock);
        Check.due("nobody is hurt", x.has(1), 0);
        return x;
    }

    /** "Nothing is told." */
    private static void nothingIsToldAtFirst() {
        NettleShirts x = new NettleShirts();
        for (int what = 0; what <= 7; what++) {
            Check.due("new: count " + what, x.count(what), 0);
        }
        for (int what = 0; what <= 2; what++) {
            Check.due("new: status " + what, x.status(what), 0);
        }
        for (int i = 0; i <= 3; i++) {
            Check.due("new: law " + i, x.noLaw(i), 0);
        }
        Check.due("new: stock", x.has(0), 0);
        Check.due("new: hurt", x.has(1), 0);
        Check.due("new: above", x.part(0), 0);
        Check.due("new: below", x.part(1), 1);
        Edge.no("new: undo", x, () -> x.undo());
        Edge.no("new: from(0)", x, () -> x.from(0));
        Edge.no("new: from(1)", x, () -> x.from(1));
        Edge.bad("new: nettles(0)", x, () -> x.nettles(0));
        Edge.bad("new: sewn(0)", x, () -> x.sewn(0));
        Edge.bad("new: told(0, 0)", x, () -> x.told(0, 0));
    }

    /** "PLOTS 0 .. 2, as they come"; "FULL: 3." */
    private static void plotsAreThree() {
        NettleShirts x = new NettleShirts();
        Edge.fine("plot 0", x, () -> x.plot(0, 1), 0);
        Edge.fine("plot 1", x, () -> x.plot(0, 2), 1);
        Edge.fine("plot 2", x, () -> x.plot(0, 3), 2);
        Edge.full("a fourth plot", x, () -> x.plot(0, 4));
        Edge.full("and again", x, () -> x.plot(5, 20));
        Check.due("plots", x.count(0), 3);
    }

    /** "KINDS": 0 .. 5. */
    private static void kindsAreSix() {
        for (int kind = 0; kind <= 5; kind++) {
            int its = kind;
            NettleShirts x = new NettleShirts();
            Edge.fine("kind " + its, x, () -> x.plot(its, 4), 0);
        }
        NettleShirts x = new NettleShirts();
        Edge.bad("kind -1", x, () -> x.plot(-1, 4));
        Edge.bad("kind 6", x, () -> x.plot(6, 4));
        for (int far : Edge.far()) {
            Edge.bad("kind " + far, x, () -> x.plot(far, 4));
        }
        Check.due("no plots", x.count(0), 0);
    }

    /** "NETTLES (0 .. 20)". */
    private static void nettlesAre0To20() {
        for (int n : new int[] {0, 1, 19, 20}) {
            NettleShirts x = new NettleShirts();
            Edge.fine(n + " nettles", x, () -> x.plot(2, n), 0);
            Edge.fine("nettles of " + n, x, () -> x.nettles(0), n);
        }
        NettleShirts x = new NettleShirts();
        Edge.bad("-1 nettles", x, () -> x.plot(2, -1));
        Edge.bad("21 nettles", x, () -> x.plot(2, 21));
        for (int far : Edge.far()) {
            Edge.bad(far + " nettles", x, () -> x.plot(2, far));
        }
    }

    /** "the MOST there can be (those, at first)". */
    private static void mostIsWhatThereWasAtFirst() {
        for (int n : new int[] {0, 1, 2, 19, 20}) {
            NettleShirts x = new NettleShirts();
            x.plot(3, n);
            for (int k = 0; k < 4; k++) {
                x.night(7);
                Check.due("no more than " + n + " at first", x.nettles(0), n);
            }
        }
    }

    /** "SHIRTS 0 .. 3, as they come"; "FULL: 4." */
    private static void shirtsAreFour() {
        NettleShirts x = new NettleShirts();
        for (int k = 0; k <= 3; k++) {
            Edge.fine("shirt " + k, x, () -> x.shirt(2), k);
        }
        Edge.full("a fifth shirt", x, () -> x.shirt(1));
        Edge.full("and again", x, () -> x.shirt(12));
        Check.due("shirts", x.count(1), 4);
    }

    /** "so many PARTS (1 .. 12), none sewn yet". */
    private static void partsAre1To12() {
        for (int parts : new int[] {1, 2, 11, 12}) {
            NettleShirts x = new NettleShirts();
            Edge.fine(parts + " parts", x, () -> x.shirt(parts), 0);
            Edge.fine("none sewn of " + parts, x, () -> x.sewn(0), 0);
            Check.due("all are lacking", x.left(0, 0), parts);
        }
        NettleShirts x = new NettleShirts();
        Edge.bad("-1 parts", x, () -> x.shirt(-1));
        Edge.bad("0 parts", x, () -> x.shirt(0));
        Edge.bad("13 parts", x, () -> x.shirt(13));
        for (int far : Edge.far()) {
            Edge.bad(far + " parts", x, () -> x.shirt(far));
        }
    }

    /** "STOCK: nettles picked (0 .. 30; 0 at first)"; "no more .. than STOCK has room for". */
    private static void stockHas30AtMost() {
        int[][] roomFor = {{25, 4}, {26, 4}, {27, 3}, {28, 2}, {29, 1}, {30, 0}};
        for (int[] r : roomFor) {
            NettleShirts x = withStock(r[0], 2);
            Check.due("picked with stock " + r[0], x.night(2), r[1]);
            Check.due("stock then", x.has(0), r[0] + r[1]);
            Check.due("the others stay, and one grew", x.nettles(2), Math.min(20, 20 - r[1] + 1));
        }
        NettleShirts y = withStock(27, 0);
        Check.due("room for just those", y.night(2), 3);
        Check.due("none then", y.night(2), 0);
    }

    /** "HURT is more by what its KIND says (9 at most)". */
    private static void hurtIs9AtMost() {
        for (int kind = 0; kind <= 5; kind++) {
            for (int hurt = 0; hurt <= 9; hurt++) {
                NettleShirts x = withBarePlots();
                x.plot(kind, 20);
                hurt(x, hurt);
                x.night(2);
                Check.due("kind " + kind + " at hurt " + hurt, x.has(1), Math.min(9, hurt + HURTS[kind]));
            }
        }
    }

    /** "REST: HURT is 2 less (0 at least)". */
    private static void hurtIs0AtLeast() {
        int[] then = {0, 0, 0, 1, 2, 3, 4, 5, 6, 7};
        for (int hurt = 0; hurt <= 9; hurt++) {
            NettleShirts x = withBarePlots();
            hurt(x, hurt);
            Check.due("rest at hurt " + hurt, x.night(7), then[hurt]);
            Check.due("hurt then", x.has(1), then[hurt]);
        }
    }

    /** "NIGHTS have numbers, from 0 on." */
    private static void nightsHaveNumbersFrom0() {
        NettleShirts x = new NettleShirts();
        x.plot(4, 20);
        Check.due("none gone by", x.count(2), 0);
        Check.due("night 0", x.night(0), 3);
        Check.due("one gone by", x.count(2), 1);
        Check.due("no growth behind night 0", x.nettles(0), 17);
        Edge.bad("a refused night", x, () -> x.night(1));
        Check.due("has no number", x.count(2), 1);
        Check.due("night 1", x.night(0), 3);
        Check.due("growth behind night 1", x.nettles(0), 15);
        Check.due("night 2", x.night(0), 0);
        Check.due("undone", x.undo(), 1);
        Check.due("night 2 once more", x.night(0), 0);
        Check.due("night 3", x.night(0), 3);
    }

    /** "so many as its KIND says, no more than are there". */
    private static void noMoreArePickedThanAreThere() {
        for (int kind = 0; kind <= 5; kind++) {
            for (int n = 0; n <= 6; n++) {
                NettleShirts x = new NettleShirts();
                x.plot(kind, n);
                int due = Math.min(PICKS[kind], n);
                Check.due("kind " + kind + " of " + n, x.night(0), due);
                Check.due("stock by kind " + kind + " of " + n, x.has(0), due);
            }
        }
    }

    /** "(Who picks none is hurt all the same.)" */
    private static void whoPicksNoneIsHurtAllTheSame() {
        for (int kind = 0; kind <= 5; kind++) {
            NettleShirts x = new NettleShirts();
            x.plot(kind, 0);
            Check.due("none of a bare plot", x.night(0), 0);
            Check.due("hurt by a bare plot of kind " + kind, x.has(1), HURTS[kind]);
            NettleShirts y = withStock(30, kind);
            Check.due("none without room", y.night(2), 0);
            Check.due("hurt without room by kind " + kind, y.has(1), HURTS[kind]);
        }
    }

    /** "as many PARTS as 3 less HURT by 3 (cut)". */
    private static void sewnIs3LessHurtBy3() {
        int[] due = {3, 3, 3, 2, 2, 2, 1, 1, 1, 0};
        for (int hurt = 0; hurt <= 9; hurt++) {
            NettleShirts x = withBarePlots();
            x.plot(1, 20);
            x.shirt(12);
            x.night(2);
            x.night(2);
            hurt(x, hurt);
            Check.due("sewn at hurt " + hurt, x.night(3), due[hurt]);
            Check.due("parts then", x.sewn(0), due[hurt]);
            Check.due("hurt stays", x.has(1), hurt);
        }
    }

    /** "no more than it lacks". */
    private static void noMoreIsSewnThanItLacks() {
        for (int parts = 1; parts <= 5; parts++) {
            NettleShirts x = withStock(12, 0);
            x.shirt(parts);
            int first = Math.min(3, parts);
            Check.due("first of " + parts, x.night(3), first);
            Check.due("then what it lacks", x.night(3), parts - first);
            Check.due("done", x.night(3), 0);
            Check.due("all sewn", x.sewn(0), parts);
            Check.due("stock has the rest", x.has(0), 12 - parts);
        }
    }

    /** "than STOCK has". */
    private static void noMoreIsSewnThanStockHas() {
        int[] due = {0, 1, 2, 3, 3};
        for (int stock = 0; stock <= 4; stock++) {
            NettleShirts x = withStock(stock, 0);
            x.shirt(12);
            Check.due("sewn of stock " + stock, x.night(3), due[stock]);
            Check.due("stock then", x.has(0), stock - due[stock]);
        }
    }

    /** "each takes one of STOCK". */
    private static void eachPartTakesOneOfStock() {
        NettleShirts x = withStock(30, 0);
        for (int k = 0; k < 4; k++) {
            x.shirt(12);
        }
        for (int k = 0; k < 10; k++) {
            Check.due("three parts", x.night(3 + k / 4), 3);
            Check.due("three less", x.has(0), 27 - 3 * k);
        }
        Check.due("no stock, no parts", x.night(6), 0);
        Check.due("sewn of the last", x.sewn(3), 0);
    }

    /** "Behind it each PLOT grows, as its KIND says, up to its MOST." */
    private static void plotsGrowUpToTheirMost() {
        grows(0, 5, 3, 4, 5, 5);
        grows(0, 3, 1, 2, 3, 3);
        grows(2, 6, 3, 4, 5, 6, 6);
        grows(3, 3, 2, 3, 3);
        grows(3, 4, 2, 4, 4);
        grows(3, 5, 3, 5, 5);
        grows(3, 6, 4, 6, 6);
        grows(3, 7, 5, 7, 7);
        grows(5, 1, 1, 1);
        grows(5, 2, 2, 2);
        grows(5, 3, 3, 3);
        grows(5, 20, 20, 20);
    }

    /** A plot of n is picked in night 0, and then left to itself. */
    private static void grows(int kind, int n, int... behind) {
        NettleShirts x = new NettleShirts();
        x.plot(kind, n);
        for (int k = 0; k < behind.length; k++) {
            x.night(k == 0 ? 0 : 7);
            Check.due("kind " + kind + " of " + n + " behind night " + k, x.nettles(0), behind[k]);
        }
    }

    /** "SHADY .. 1, if the NIGHT's number is odd, else 0"; WATCHED "as SHADY". */
    private static void shadyGrowsInOddNights() {
        grows(1, 3, 0, 1, 1, 2, 2, 3, 3, 3, 3);
        grows(4, 3, 0, 1, 1, 2, 2, 3, 3, 3, 3);
    }

    /** "none in NIGHTS of which the number by 3 leaves 2". */
    private static void watchedIsNotPickedInEveryThirdNight() {
        int[] due = {3, 3, 0, 3, 3, 0, 3, 3, 0, 3};
        for (int night = 0; night < due.length; night++) {
            NettleShirts x = new NettleShirts();
            x.plot(4, 20);
            x.plot(1, 20);
            for (int k = 0; k < night; k++) {
                x.night(7);
            }
            Check.due("watched in night " + night, x.night(0), due[night]);
            Check.due("nobody is hurt", x.has(1), 0);
            x.undo();
            Check.due("shady in night " + night, x.night(1), 3);
        }
    }

    /** "half of RICH (cut)". */
    private static void youngIsHalfOfRich() {
        NettleShirts x = new NettleShirts();
        x.plot(5, 20);
        x.plot(2, 20);
        Check.due("young", x.night(0), 2);
        Check.due("rich", x.night(1), 4);
    }

    /** "Behind it each PLOT grows": the ones that are not picked too, whatever the night was. */
    private static void everyPlotGrowsBehindEveryNight() {
        for (int what : new int[] {0, 1, 3, 7}) {
            NettleShirts x = new NettleShirts();
            x.plot(5, 20);
            x.plot(0, 20);
            x.plot(3, 20);
            x.shirt(1);
            x.night(1);
            x.night(1);
            x.night(2);
            x.night(2);
            Check.due("plot ahead of it", x.nettles(1), 18);
            Check.due("fierce ahead of it", x.nettles(2), 16);
            x.night(what);
            Check.due("plot behind night " + what, x.nettles(1), what == 1 ? 16 : 19);
            Check.due("fierce behind night " + what, x.nettles(2), 18);
        }
    }

    /** "0 .. 2 PICK there .. of those that there are". */
    private static void nightsThereAreByPlots() {
        for (int plots = 0; plots <= 3; plots++) {
            NettleShirts x = new NettleShirts();
            for (int k = 0; k < plots; k++) {
                x.plot(2, 20);
            }
            for (int what = 0; what <= 2; what++) {
                int its = what;
                if (what < plots) {
                    Edge.fine("pick at " + what + " of " + plots, x, () -> x.night(its), 4);
                } else {
                    Edge.bad("pick at " + what + " of " + plots, x, () -> x.night(its));
                }
            }
        }
    }

    /** "3 .. 6 SEW that SHIRT (3 less) .. of those that there are". */
    private static void nightsThereAreByShirts() {
        for (int shirts = 0; shirts <= 4; shirts++) {
            NettleShirts x = withStock(12, 0);
            for (int k = 0; k < shirts; k++) {
                x.shirt(2);
            }
            for (int what = 3; what <= 6; what++) {
                int its = what;
                if (what < 3 + shirts) {
                    Edge.fine("sew " + what + " of " + shirts, x, () -> x.night(its), 2);
                    Check.due("that shirt", x.sewn(what - 3), 2);
                } else {
                    Edge.bad("sew " + what + " of " + shirts, x, () -> x.night(its));
                }
            }
        }
    }

    /** "7 REST"; "BAD: what there is not, too." */
    private static void restIsAlwaysThere() {
        NettleShirts x = new NettleShirts();
        Edge.fine("rest with nothing told", x, () -> x.night(7), 0);
        Edge.bad("night 8", x, () -> x.night(8));
        Edge.bad("night -1", x, () -> x.night(-1));
        for (int far : Edge.far()) {
            Edge.bad("night " + far, x, () -> x.night(far));
        }
        Check.due("one night", x.count(2), 1);
    }

    /** "12 at most"; "NO: none may be." */
    private static void twelveNightsMayBeUndone() {
        for (int nights : new int[] {0, 1, 11, 12, 13, 14, 30}) {
            NettleShirts x = new NettleShirts();
            for (int k = 0; k < nights; k++) {
                x.night(7);
            }
            int may = Math.min(12, nights);
            Check.due("of " + nights + " may be undone", x.count(3), may);
            for (int k = 0; k < may; k++) {
                Check.due("undo " + k + " of " + nights, x.undo(), 1);
                Check.due("less by one", x.count(3), may - 1 - k);
            }
            Edge.no("undo of none", x, () -> x.undo());
            Check.due("nights that stay of " + nights, x.count(2), nights - may);
        }
    }

    /** "as ahead of the last NIGHT": each of the twelve as it was, the last one first. */
    private static void undoIsAsAheadOfTheNight() {
        NettleShirts x = new NettleShirts();
        x.plot(3, 20);
        x.plot(1, 9);
        x.shirt(9);
        x.shirt(3);
        int[] nights = {0, 3, 1, 4, 7, 0, 3, 3, 1, 7, 7, 4, 0, 3};
        long[][] was = new long[nights.length][];
        for (int k = 0; k < nights.length; k++) {
            was[k] = state(x);
            x.night(nights[k]);
        }
        for (int k = nights.length - 1; k >= nights.length - 12; k--) {
            Check.due("undo of night " + k, x.undo(), 1);
            long[] is = state(x);
            for (int v = 0; v < is.length; v++) {
                Check.due("value " + v + " ahead of night " + k, is[v], was[k][v]);
            }
        }
        Edge.no("no thirteenth", x, () -> x.undo());
        Check.due("the nights behind an undone one may be again", x.night(7), x.has(1));
        Check.due("one may be undone", x.count(3), 1);
    }

    private static long[] state(NettleShirts x) {
        return new long[] {x.nettles(0), x.nettles(1), x.sewn(0), x.sewn(1), x.has(0), x.has(1), x.count(2)};
    }

    /** "a PLOT .. told leave none"; one that is refused changes nothing. */
    private static void aPlotLeavesNoneToUndo() {
        NettleShirts x = new NettleShirts();
        x.plot(0, 1);
        x.plot(0, 2);
        x.night(7);
        x.night(7);
        Edge.bad("a bad plot", x, () -> x.plot(6, 0));
        Check.due("leaves two", x.count(3), 2);
        x.plot(0, 3);
        Check.due("a plot leaves none", x.count(3), 0);
        Edge.no("undo", x, () -> x.undo());
        x.night(7);
        Edge.full("a fourth plot", x, () -> x.plot(0, 3));
        Check.due("leaves one", x.count(3), 1);
        Edge.fine("undo of it", x, () -> x.undo(), 1);
        Check.due("the nights of before stay", x.count(2), 2);
    }

    /** "a SHIRT told leave none"; one that is refused changes nothing. */
    private static void aShirtLeavesNoneToUndo() {
        NettleShirts x = new NettleShirts();
        x.shirt(1);
        x.shirt(2);
        x.shirt(3);
        x.night(7);
        x.night(3);
        Edge.bad("a bad shirt", x, () -> x.shirt(13));
        Check.due("leaves two", x.count(3), 2);
        x.shirt(4);
        Check.due("a shirt leaves none", x.count(3), 0);
        Edge.no("undo", x, () -> x.undo());
        x.night(7);
        Edge.full("a fifth shirt", x, () -> x.shirt(1));
        Check.due("leaves one", x.count(3), 1);
        Edge.fine("undo of it", x, () -> x.undo(), 1);
    }

    /** "NETTLES of a PLOT. BAD." */
    private static void nettlesOfPlotsThereAre() {
        for (int plots = 0; plots <= 3; plots++) {
            NettleShirts x = new NettleShirts();
            for (int k = 0; k < plots; k++) {
                x.plot(0, 5 + k);
            }
            for (int k = 0; k < plots; k++) {
                int plot = k;
                Edge.fine("nettles " + k + " of " + plots, x, () -> x.nettles(plot), 5 + k);
            }
            int beyond = plots;
            Edge.bad("nettles -1 of " + plots, x, () -> x.nettles(-1));
            Edge.bad("nettles beyond " + plots, x, () -> x.nettles(beyond));
            for (int far : Edge.far()) {
                Edge.bad("nettles " + far, x, () -> x.nettles(far));
            }
        }
    }

    /** "PARTS sewn of a SHIRT. BAD." */
    private static void sewnOfShirtsThereAre() {
        for (int shirts = 0; shirts <= 4; shirts++) {
            NettleShirts x = withStock(12, 0);
            for (int k = 0; k < shirts; k++) {
                x.shirt(12);
            }
            for (int k = 0; k < shirts; k++) {
                x.night(3 + k);
                int shirt = k;
                Edge.fine("sewn " + k + " of " + shirts, x, () -> x.sewn(shirt), 3);
            }
            int beyond = shirts;
            Edge.bad("sewn -1 of " + shirts, x, () -> x.sewn(-1));
            Edge.bad("sewn beyond " + shirts, x, () -> x.sewn(beyond));
            for (int far : Edge.far()) {
                Edge.bad("sewn " + far, x, () -> x.sewn(far));
            }
        }
    }

    /** "STOCK (0), HURT (1). BAD." */
    private static void hasTwo() {
        NettleShirts x = new NettleShirts();
        x.plot(3, 20);
        x.night(0);
        Edge.bad("has -1", x, () -> x.has(-1));
        Edge.fine("stock", x, () -> x.has(0), 4);
        Edge.fine("hurt", x, () -> x.has(1), 3);
        Edge.bad("has 2", x, () -> x.has(2));
        for (int far : Edge.far()) {
            Edge.bad("has " + far, x, () -> x.has(far));
        }
    }

    /** "An object is used for at most 512 calls after it has been made". */
    private static void the512thCallIsStillAnswered() {
        NettleShirts x = new NettleShirts();
        x.plot(4, 20);
        for (int call = 2; call <= 509; call++) {
            x.night(7);
        }
        Check.due("call 510: nights gone by", x.count(2), 508);
        Check.due("call 511: night 508, of which the number by 3 leaves 1", x.night(0), 3);
        Check.due("call 512: night 509, of which the number by 3 leaves 2", x.night(0), 0);
    }
}
