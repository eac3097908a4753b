import java.util.Random;

/** Promises 9 to 12 on lives well under way: what the search leaves out is held against a search through all plans. */
public final class PlanSearchTest {
    private static final int LIVES = 200;

    public static void main(String[] args) {
        Random chance = new Random(77);
        for (int life = 0; life < LIVES && Check.isAllRight(); life++) {
            NettleShirts x = new NettleShirts();
            Model y = new Model();
            tell(chance, x, y);
            String at = "life " + life + ": ";
            int some = chance.nextInt(1 << x.count(1));
            int m = 2 + chance.nextInt(4);
            for (int i = -1; i <= m; i++) {
                String asked = "(" + m + ", " + some + ", " + i + ")";
                Check.due(at + "plan" + asked, x.plan(m, i), y.plan(m, i));
                Check.due(at + "inTime" + asked, x.inTime(m, some, i), y.inTime(m, some, i));
            }
            Check.due(at + "fewest(" + some + ")", x.fewest(some), y.fewest(some));
            Check.due(at + "left(" + m + ", 0)", x.left(m, 0), y.left(m, 0));
            Check.due(at + "left(" + m + ", 1)", x.left(m, 1), y.left(m, 1));
        }
        Check.end();
    }

    private static void tell(Random chance, NettleShirts x, Model y) {
        int plots = 1 + chance.nextInt(3);
        for (int k = 0; k < plots; k++) {
            int kind = chance.nextInt(6);
            int n = chance.nextInt(21);
            Check.due("plot", x.plot(kind, n), y.plot(kind, n));
        }
        int shirts = 1 + chance.nextInt(4);
        int most = 1 + chance.nextInt(12);
        for (int k = 0; k < shirts; k++) {
            int parts = 1 + chance.nextInt(most);
            Check.due("shirt", x.shirt(parts), y.shirt(parts));
        }
        int nights = chance.nextInt(30);
        for (int k = 0; k < nights; k++) {
            int what = chance.nextInt(8);
            Check.due("night", x.night(what), y.night(what));
        }
    }
}
