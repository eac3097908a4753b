/** Promises 9 to 16: plan, inTime, fewest, left, stings, surest, told, bare. */
public final class PlansTest {
    public static void main(String[] args) {
        plans();
        plansChangeNothing();
        theFirstOfLikePlans();
        inTime();
        inTimeCanCostParts();
        fewest();
        left();
        stings();
        surest();
        told();
        bare();
        badNumbers();
        Check.end();
    }

    private static void plans() {
        NettleShirts x = new NettleShirts();
        Check.due("no nights", x.plan(0, -1), 0);
        Check.due("no first of none", x.plan(0, 0), -5);
        Check.due("nothing to sew", x.plan(5, -1), 0);
        Check.due("rest is all there is", x.plan(5, 4), 7);
        Check.due("a sixth of five", x.plan(5, 5), -5);
        Check.due("a far one", x.plan(5, Integer.MAX_VALUE), -5);
        x.plot(2, 20);
        x.shirt(12);
        Check.due("four picked, three sewn", x.plan(2, -1), 3);
        Check.due("picked twice, sewn thrice", x.plan(5, -1), 8);
        int[] due = {0, 0, 3, 3, 3};
        for (int i = 0; i < 5; i++) {
            Check.due("night " + i, x.plan(5, i), due[i]);
        }
        Check.due("not so many is no refusal", x.status(0), 0);
    }

    private static void plansChangeNothing() {
        NettleShirts x = new NettleShirts();
        x.plot(3, 10);
        x.plot(4, 10);
        x.shirt(7);
        x.night(0);
        long h = x.digest();
        x.plan(5, 2);
        x.inTime(4, 1, 0);
        x.fewest(1);
        x.left(3, 1);
        x.bare(4, 0);
        x.surest(3, 2, 1, 2);
        Check.due("plans change nothing", x.digest(), h);
        Check.due("no nights by them", x.count(2), 1);
    }

    private static void theFirstOfLikePlans() {
        NettleShirts x = new NettleShirts();
        x.shirt(2);
        x.shirt(2);
        x.plot(1, 2);
        x.plot(1, 2);
        Check.due("two parts in two nights", x.plan(2, -1), 2);
        Check.due("the first plot", x.plan(2, 0), 0);
        Check.due("the first shirt", x.plan(2, 1), 3);
        Check.due("a night alone sews none", x.plan(1, -1), 0);
        Check.due("so the first night there is", x.plan(1, 0), 0);
        Check.due("four parts in four nights", x.plan(4, -1), 4);
        int[] due = {0, 1, 3, 4};
        for (int i = 0; i < 4; i++) {
            Check.due("night " + i, x.plan(4, i), due[i]);
        }
        NettleShirts y = new NettleShirts();
        y.shirt(1);
        Check.due("without plots sewing is the first night", y.plan(3, 2), 3);
    }

    private static void inTime() {
        NettleShirts x = new NettleShirts();
        x.plot(0, 20);
        x.shirt(4);
        x.shirt(1);
        Check.due("both cannot be in four", x.inTime(4, 3, -1), -1);
        Check.due("nor asked by night", x.inTime(4, 3, 2), -1);
        Check.due("nor beyond its nights", x.inTime(4, 3, 9), -1);
        Check.due("both in five", x.inTime(5, 3, -1), 5);
        int[] due = {0, 0, 3, 3, 4};
        for (int i = 0; i < 5; i++) {
            Check.due("night " + i, x.inTime(5, 3, i), due[i]);
        }
        Check.due("a sixth", x.inTime(5, 3, 5), -5);
        Check.due("the second alone", x.inTime(2, 2, -1), 1);
        Check.due("picks first", x.inTime(2, 2, 0), 0);
        Check.due("no shirts told", x.inTime(2, 0, -1), x.plan(2, -1));
        Check.due("none at once", x.inTime(0, 1, -1), -1);
    }

    private static void inTimeCanCostParts() {
        NettleShirts x = new NettleShirts();
        x.plot(2, 4);
        x.shirt(12);
        x.shirt(1);
        Check.due("the plan leaves it", x.plan(2, -1), 3);
        Check.due("in time costs two", x.inTime(2, 2, -1), 1);
        Check.due("its sewing", x.inTime(2, 2, 1), 4);
    }

    private static void fewest() {
        NettleShirts x = new NettleShirts();
        Check.due("nothing to sew", x.fewest(0), 0);
        Check.due("no such shirt", x.fewest(1), -2);
        x.plot(0, 20);
        x.shirt(3);
        x.shirt(4);
        x.shirt(12);
        Check.due("none told", x.fewest(0), 0);
        Check.due("three parts", x.fewest(1), 2);
        Check.due("four parts", x.fewest(2), 4);
        Check.due("twelve parts", x.fewest(4), -1);
        Check.due("seven parts", x.fewest(3), -1);
        Check.due("a fourth shirt", x.fewest(8), -2);
        Check.due("below none", x.fewest(-1), -2);
        x.night(0);
        x.night(3);
        Check.due("done already", x.fewest(1), 0);
    }

    private static void left() {
        NettleShirts x = new NettleShirts();
        Check.due("nothing left of nothing", x.left(5, 0), 0);
        Check.due("no shirts", x.left(5, 1), -1);
        x.shirt(3);
        x.shirt(5);
        x.shirt(5);
        Check.due("without plots all is left", x.left(5, 0), 13);
        Check.due("of like ones the least", x.left(5, 1), 1);
        x.plot(2, 20);
        Check.due("three sewn", x.left(2, 0), 10);
        Check.due("most is left of", x.left(2, 1), 1);
        NettleShirts y = new NettleShirts();
        y.plot(2, 20);
        y.shirt(3);
        Check.due("all sewn", y.left(2, 0), 0);
        Check.due("like ones with none left", y.left(2, 1), 0);
    }

    private static void stings() {
        NettleShirts x = new NettleShirts();
        fraction(x, 5, 1, 1, 1, 2);
        fraction(x, 5, 2, 2, 3, 4);
        fraction(x, 3, 2, 1, 49, 100);
        fraction(x, 0, 12, 1, 1, 1);
        fraction(x, 10, 12, 12, 0, 1);
        fraction(x, 10, 12, 13, 1, 1);
        fraction(x, 7, 0, 0, 0, 1);
        fraction(x, 7, 0, 1, 1, 1);
        fraction(x, 1, 12, 1, 282429536481L, 1000000000000L);
        fraction(x, 2, 3, 13, 1, 1);
        Check.due("one of three by 4 of 10", x.stings(4, 3, 2), 1);
        Check.due("bad stings leave it", x.stings(11, 3, 2), -2);
        Check.due("above", x.part(0), 81);
        Check.due("below", x.part(1), 125);
    }

    private static void fraction(NettleShirts x, int n, int k, int l, long above, long below) {
        String call = "stings(" + n + ", " + k + ", " + l + ")";
        Check.due(call, x.stings(n, k, l), 1);
        Check.due(call + ", above", x.part(0), above);
        Check.due(call + ", below", x.part(1), below);
    }

    private static void surest() {
        NettleShirts x = new NettleShirts();
        x.stings(5, 1, 1);
        Check.due("a half, exactly", x.surest(5, 1, 1, 2), 1);
        Check.due("a little more than a half", x.surest(5, 1, 50, 99), 0);
        Check.due("a quarter, exactly", x.surest(5, 1, 1, 4), 2);
        Check.due("fewer than none", x.surest(5, 0, 1, 99), -1);
        Check.due("fewer than 13", x.surest(10, 13, 99, 99), 12);
        Check.due("sure to sting", x.surest(10, 3, 1, 1), 2);
        Check.due("never stings", x.surest(0, 1, 99, 99), 12);
        Check.due("the fraction stays above", x.part(0), 1);
        Check.due("the fraction stays below", x.part(1), 2);
        Check.due("no refusals", x.status(0), 0);
    }

    private static void told() {
        NettleShirts x = new NettleShirts();
        Check.due("no plots", x.told(0, 0), -2);
        x.plot(0, 5);
        Check.due("0 at first", x.told(0, 20), 0);
        Check.due("what they were", x.told(0, 3), 20);
        Check.due("-1", x.told(0, -1), -2);
        Check.due("21", x.told(0, 21), -2);
        Check.due("plot 1", x.told(1, 0), -2);
        Check.due("plot -1", x.told(-1, 0), -2);
        Check.due("still", x.told(0, 3), 3);
        x.plot(1, 2);
        Check.due("of the next 0", x.told(1, 0), 0);
    }

    private static void bare() {
        NettleShirts x = new NettleShirts();
        Check.due("no plots, three nights", x.bare(3, 0), 1);
        Check.due("all of rest", x.bare(3, 1), 0777);
        Check.due("no nights", x.bare(0, 1), 0);
        x.plot(1, 6);
        x.plot(1, 6);
        Check.due("not bare now", x.bare(0, 0), 0);
        Check.due("no first", x.bare(0, 1), -3);
        Check.due("counts as NO", x.status(1), 1);
        x.told(0, 3);
        x.told(1, 6);
        Check.due("one pick at the first", x.bare(1, 0), 1);
        Check.due("that pick", x.bare(1, 1), 0);
        x.told(0, 6);
        x.told(1, 3);
        Check.due("one pick at the other", x.bare(1, 1), 1);
        x.told(0, 4);
        x.told(1, 4);
        Check.due("two picks, grown in night 1", x.bare(2, 0), 2);
        Check.due("the first of them", x.bare(2, 1), 01);
        x.told(0, 6);
        x.told(1, 6);
        Check.due("now as told", x.bare(0, 0), 1);
        Check.due("its number", x.bare(0, 1), 0);
        Check.due("rests alone", x.bare(4, 1), 07777);
        x.shirt(12);
        Check.due("sewing is not of them", x.bare(4, 0), 1);
    }

    private static void badNumbers() {
        NettleShirts x = new NettleShirts();
        x.shirt(1);
        int[][] plans = {{-1, -1}, {6, -1}, {2, -2}, {Integer.MAX_VALUE, 0}, {0, Integer.MIN_VALUE}};
        for (int[] p : plans) {
            Check.due("plan(" + p[0] + ", " + p[1] + ")", x.plan(p[0], p[1]), -10);
            Check.due("inTime(" + p[0] + ", 1, " + p[1] + ")", x.inTime(p[0], 1, p[1]), -10);
        }
        Check.due("shirts that are not", x.inTime(1, 2, -1), -10);
        Check.due("shirts below none", x.inTime(1, -1, -1), -10);
        Check.due("left -1", x.left(-1, 0), -10);
        Check.due("left 6", x.left(6, 0), -10);
        Check.due("left what", x.left(1, 2), -10);
        Check.due("left what, below", x.left(1, -1), -10);
        Check.due("they count as BAD", x.status(0), 16);
        int[][] stings = {{-1, 1, 1}, {11, 1, 1}, {1, -1, 1}, {1, 13, 1}, {1, 1, -1}, {1, 1, 14}};
        for (int[] s : stings) {
            Check.due("stings", x.stings(s[0], s[1], s[2]), -2);
        }
        int[][] surest = {{-1, 1, 1, 1}, {11, 1, 1, 1}, {1, -1, 1, 1}, {1, 14, 1, 1}, {1, 1, 0, 1}, {1, 1, 2, 1},
            {1, 1, 1, 0}, {1, 1, 1, 100}, {1, 1, 100, 100}, {1, 1, -1, -1}};
        for (int[] s : surest) {
            Check.due("surest", x.surest(s[0], s[1], s[2], s[3]), -2);
        }
        int[][] bare = {{-1, 0}, {5, 0}, {1, -1}, {1, 2}};
        for (int[] b : bare) {
            Check.due("bare", x.bare(b[0], b[1]), -2);
        }
        Check.due("these too", x.status(0), 36);
    }
}
