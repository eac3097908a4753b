/** Promises 24 to 26: show, noTrial, lasts. */
public final class TrialTest {
    public static void main(String[] args) {
        showing();
        noTrial();
        lasting();
        playingWell();
        badNumbers();
        Check.end();
    }

    private static NettleShirts trial(int[] charges, int[] proofs) {
        NettleShirts x = new NettleShirts();
        for (int w : charges) {
            x.show(0, w);
        }
        for (int w : proofs) {
            x.show(1, w);
        }
        return x;
    }

    private static void lasts(String what, NettleShirts x, int l, int shown, int charge) {
        Check.due(what, x.lasts(l, 0), shown);
        Check.due(what + ", which charge", x.lasts(l, 1), charge);
    }

    private static void showing() {
        NettleShirts x = new NettleShirts();
        for (int k = 0; k < 4; k++) {
            Check.due("charge " + k, x.show(0, 9), k);
            Check.due("proof " + k, x.show(1, 1), k);
        }
        Check.due("a fifth charge", x.show(0, 1), -4);
        Check.due("a fifth proof", x.show(1, 1), -4);
        Check.due("a bad fifth", x.show(1, 10), -2);
        Check.due("charges", x.count(5), 4);
        Check.due("proofs", x.count(6), 4);
    }

    private static void noTrial() {
        NettleShirts x = trial(new int[] {1, 2, 3}, new int[] {4});
        Check.due("how many there were", x.noTrial(), 4);
        Check.due("none now", x.noTrial(), 0);
        Check.due("no charges", x.count(5), 0);
        Check.due("no proofs", x.count(6), 0);
        lasts("nothing to show", x, 1, 0, -1);
    }

    private static void lasting() {
        lasts("proofs alone", trial(new int[] {}, new int[] {5, 5}), 3, 0, -1);
        lasts("a charge alone", trial(new int[] {5}, new int[] {}), 9, 1, 0);
        lasts("heavier by just so much", trial(new int[] {5}, new int[] {1}), 5, 1, 0);
        lasts("not heavier by so much", trial(new int[] {5}, new int[] {1}), 6, 2, 0);
        lasts("the others have none left", trial(new int[] {2}, new int[] {1, 1}), 20, 2, 0);
        lasts("she has none left", trial(new int[] {2, 2, 2}, new int[] {1}), 20, 3, 0);
        lasts("all are shown", trial(new int[] {1, 1, 1, 1}, new int[] {1, 1, 1, 1}), 20, 8, 0);
        lasts("the heavy one ends it", trial(new int[] {1, 2, 9, 3}, new int[] {9, 9}), 9, 1, 2);
        lasts("of like ones the least", trial(new int[] {1, 9, 9}, new int[] {9, 9}), 9, 1, 1);
    }

    private static void playingWell() {
        lasts("she shows the heavy proof first", trial(new int[] {3, 4}, new int[] {1, 5}), 5, 4, 0);
        lasts("it would not have been enough", trial(new int[] {3, 4}, new int[] {1, 2}), 5, 3, 0);
        lasts("two together, in either order", trial(new int[] {6, 5}, new int[] {2, 1}), 9, 3, 0);
        lasts("a light one first is worse", trial(new int[] {1, 8, 1, 8}, new int[] {4, 4, 4, 4}), 12, 3, 1);
    }

    private static void badNumbers() {
        NettleShirts x = new NettleShirts();
        int[][] shows = {{-1, 1}, {2, 1}, {0, 0}, {0, 10}, {1, -1}, {Integer.MAX_VALUE, Integer.MIN_VALUE}};
        for (int[] s : shows) {
            Check.due("show(" + s[0] + ", " + s[1] + ")", x.show(s[0], s[1]), -2);
        }
        int[][] lasts = {{0, 0}, {21, 0}, {1, -1}, {1, 2}, {Integer.MIN_VALUE, 0}, {-1, 1}};
        for (int[] l : lasts) {
            Check.due("lasts(" + l[0] + ", " + l[1] + ")", x.lasts(l[0], l[1]), -2);
        }
        Check.due("the edges are fine", x.lasts(1, 0) + x.lasts(20, 0), 0);
        Check.due("all are BAD", x.status(0), 12);
    }
}
