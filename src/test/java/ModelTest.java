import java.util.Random;

/** Runs of calls by chance (the same ones each time), each answered as the model does, all 35 promises together. */
public final class ModelTest {
    private static final int RUNS = 2000;
    /** So many calls of an object are promised. */
    private static final int CALLS = 512;
    /** A step asks no more than this, but for a text that is typed. */
    private static final int ROOM = 8;
    /** The model goes through all plans: more of the long ones would take too long. */
    private static final int LONG_PLANS = 5;

    private static Random chance;
    private static NettleShirts x;
    private static Model y;
    private static int calls;
    private static int longPlans;

    public static void main(String[] args) {
        for (int run = 0; run < RUNS && Check.isAllRight(); run++) {
            chance = new Random(1000 + run);
            x = new NettleShirts();
            y = new Model();
            calls = 0;
            longPlans = 0;
            while (calls + ROOM <= CALLS && Check.isAllRight()) {
                String at = "run " + run + ", call " + calls + ": ";
                oneCall(at, run % 5);
                ask(at + "the digest behind it", x.digest(), y.digest());
            }
            for (int what = 0; what < 3; what++) {
                ask("run " + run + ": status " + what, x.status(what), y.status(what));
            }
        }
        Check.end();
    }

    private static void ask(String call, long got, long want) {
        calls++;
        Check.due(call, got, want);
    }

    /** Mostly a number as told, at times one beside that. */
    private static int some(int least, int most) {
        switch (chance.nextInt(24)) {
            case 0: return least - 1;
            case 1: return most + 1;
            case 2: return chance.nextBoolean() ? Integer.MAX_VALUE : Integer.MIN_VALUE;
            default: return least + chance.nextInt(most - least + 1);
        }
    }

    /** What the run is mostly about, so that each run comes far in something. */
    private static void oneCall(String at, int style) {
        int what = chance.nextInt(100);
        if (what < 55) {
            switch (style) {
                case 0: nightCall(at); return;
                case 1: planCall(at); return;
                case 2: wordCall(at); return;
                case 3: trialCall(at); return;
                default: textCall(at); return;
            }
        }
        switch (what % 6) {
            case 0: nightCall(at); return;
            case 1: planCall(at); return;
            case 2: wordCall(at); return;
            case 3: trialCall(at); return;
            case 4: textCall(at); return;
            default: otherCall(at);
        }
    }

    private static void nightCall(String at) {
        int a = some(0, 7);
        int b = some(0, 20);
        switch (chance.nextInt(12)) {
            case 0: a = some(0, 5); ask(at + "plot(" + a + ", " + b + ")", x.plot(a, b), y.plot(a, b)); return;
            case 1: a = some(1, 12); ask(at + "shirt(" + a + ")", x.shirt(a), y.shirt(a)); return;
            case 2: ask(at + "undo()", x.undo(), y.undo()); return;
            case 3: a = some(0, 2); ask(at + "nettles(" + a + ")", x.nettles(a), y.nettles(a)); return;
            case 4: a = some(0, 3); ask(at + "sewn(" + a + ")", x.sewn(a), y.sewn(a)); return;
            case 5: a = some(0, 1); ask(at + "has(" + a + ")", x.has(a), y.has(a)); return;
            default: ask(at + "night(" + a + ")", x.night(a), y.night(a));
        }
    }

    private static int nightsPlanned() {
        int m = some(0, 5);
        if (m >= 4 && m <= 5) {
            longPlans++;
            return longPlans > LONG_PLANS ? m - 2 : m;
        }
        return m;
    }

    private static void planCall(String at) {
        int m = nightsPlanned();
        int i = chance.nextInt(3) == 0 ? -1 : some(-1, 5);
        int shirts = Math.max(1, y.count(1));
        int bits = chance.nextInt(8) == 0 ? some(0, 15) : chance.nextInt(1 << shirts);
        int what = some(0, 1);
        switch (chance.nextInt(9)) {
            case 0: ask(at + "plan(" + m + ", " + i + ")", x.plan(m, i), y.plan(m, i)); return;
            case 1:
                ask(at + "inTime(" + m + ", " + bits + ", " + i + ")", x.inTime(m, bits, i), y.inTime(m, bits, i));
                return;
            case 2:
                longPlans++;
                if (longPlans <= LONG_PLANS) {
                    ask(at + "fewest(" + bits + ")", x.fewest(bits), y.fewest(bits));
                }
                return;
            case 3: ask(at + "left(" + m + ", " + what + ")", x.left(m, what), y.left(m, what)); return;
            case 4: chanceCall(at); return;
            case 5: toldCall(at); return;
            case 6: m = some(0, 4); ask(at + "bare(" + m + ", " + what + ")", x.bare(m, what), y.bare(m, what)); return;
            default: nightCall(at);
        }
    }

    private static void toldCall(String at) {
        int plot = some(0, 2);
        int n = some(0, 20);
        if (chance.nextBoolean()) {
            int stands = x.nettles(plot);
            ask(at + "nettles(" + plot + ")", stands, y.nettles(plot));
            n = stands >= 0 ? stands : n;
        }
        ask(at + "told(" + plot + ", " + n + ")", x.told(plot, n), y.told(plot, n));
    }

    private static void chanceCall(String at) {
        int n = some(0, 10);
        int k = some(0, 12);
        int l = some(0, 13);
        int b = some(1, 99);
        int a = b >= 1 && b <= 99 ? some(1, b) : some(1, 99);
        if (chance.nextBoolean()) {
            ask(at + "stings(" + n + ", " + k + ", " + l + ")", x.stings(n, k, l), y.stings(n, k, l));
            ask(at + "part(0)", x.part(0), y.part(0));
            ask(at + "part(1)", x.part(1), y.part(1));
        } else {
            ask(at + "surest(" + n + ", " + l + ", " + a + ", " + b + ")", x.surest(n, l, a, b), y.surest(n, l, a, b));
        }
    }

    private static void wordCall(String at) {
        int i = some(0, 3);
        int c = chance.nextInt(4) == 0 ? some(0, 25) : chance.nextInt(4);
        int n = chance.nextBoolean() ? -1 : some(-1, 3);
        switch (chance.nextInt(10)) {
            case 0: case 1: ask(at + "sign(" + c + ")", x.sign(c), y.sign(c)); return;
            case 2: case 3:
                c = chance.nextInt(3) > 0 ? c : chance.nextInt(4) == 0 ? some(0, 27) : 26 + chance.nextInt(2);
                ask(at + "law(" + i + ", " + c + ")", x.law(i, c), y.law(i, c));
                return;
            case 4:
                if (chance.nextInt(6) == 0) {
                    ask(at + "hush()", x.hush(), y.hush());
                } else {
                    ask(at + "sign(" + c + ")", x.sign(c), y.sign(c));
                }
                return;
            case 5:
                if (chance.nextBoolean()) {
                    ask(at + "noLaw(" + i + ")", x.noLaw(i), y.noLaw(i));
                }
                return;
            case 6: ask(at + "word(" + i + ")", x.word(i), y.word(i)); return;
            case 7: ask(at + "silent()", x.silent(), y.silent()); return;
            default: ask(at + "met(" + c + ", " + n + ")", x.met(c, n), y.met(c, n));
        }
    }

    private static void trialCall(String at) {
        int what = some(0, 1);
        int weight = some(1, 9);
        int l = some(1, 20);
        switch (chance.nextInt(12)) {
            case 0: ask(at + "noTrial()", x.noTrial(), y.noTrial()); return;
            case 1: case 2: case 3: case 4: case 5:
                ask(at + "show(" + what + ", " + weight + ")", x.show(what, weight), y.show(what, weight));
                return;
            default: ask(at + "lasts(" + l + ", " + what + ")", x.lasts(l, what), y.lasts(l, what));
        }
    }

    private static void textCall(String at) {
        switch (chance.nextInt(8)) {
            case 0: ask(at + "clear()", x.clear(), y.clear()); return;
            case 1:
                long v = chance.nextLong();
                int n = some(1, 8);
                ask(at + "type(" + v + ", " + n + ")", x.type(v, n), y.type(v, n));
                return;
            case 2: ask(at + "read()", x.read(), y.read()); return;
            default:
                if (chance.nextInt(3) > 0) {
                    ask(at + "clear()", x.clear(), y.clear());
                }
                String life = lifeByChance();
                if (calls + life.length() + ROOM <= CALLS) {
                    typeBoth(at, life);
                    ask(at + "read()", x.read(), y.read());
                }
        }
    }

    private static void typeBoth(String at, String text) {
        int from = 0;
        while (from < text.length()) {
            int n = Math.min(1 + chance.nextInt(8), text.length() - from);
            long v = chance.nextLong();
            for (int k = 0; k < n; k++) {
                v = v << 8 | text.charAt(from + k);
            }
            ask(at + "type(" + v + ", " + n + ")", x.type(v, n), y.type(v, n));
            from += n;
        }
    }

    private static String lifeByChance() {
        StringBuilder life = new StringBuilder();
        int items = chance.nextInt(9);
        for (int k = 0; k < items; k++) {
            life.append(blanks()).append(itemByChance());
        }
        if (chance.nextInt(3) == 0 && life.length() > 0) {
            spoil(life);
        }
        return life.append(blanks()).toString();
    }

    private static String itemByChance() {
        switch (chance.nextInt(6)) {
            case 0: return "plot" + figure(5) + " " + figure(20) + blanks() + ";";
            case 1: return "shirt " + figure(12) + ";";
            case 2: return "charge " + figure(9) + blanks() + ";";
            case 3: return "proof " + figure(9) + ";";
            case 4: return "law " + figure(3) + blanks() + letters(chance.nextInt(30) == 0 ? 10 : 5, true) + ";";
            default: return "day " + letters(chance.nextInt(20) == 0 ? 70 : 12, chance.nextInt(30) == 0) + blanks() + ";";
        }
    }

    private static void spoil(StringBuilder life) {
        int at = chance.nextInt(life.length());
        switch (chance.nextInt(5)) {
            case 0: life.deleteCharAt(at); return;
            case 1: life.setLength(at); return;
            case 2: life.insert(at, "0123456789;. +az".charAt(chance.nextInt(16))); return;
            case 3: life.setCharAt(at, "0123456789;. +az".charAt(chance.nextInt(16))); return;
            default: life.setCharAt(at, (char) chance.nextInt(256));
        }
    }

    private static String blanks() {
        return " ".repeat(Math.max(0, chance.nextInt(5) - 2));
    }

    private static String figure(int most) {
        int n = chance.nextInt(25) == 0 ? chance.nextInt(120) : chance.nextInt(most + 1);
        return n < 10 && chance.nextInt(6) == 0 ? "0" + n : "" + n;
    }

    private static String letters(int most, boolean asLaw) {
        StringBuilder word = new StringBuilder();
        int n = 1 + chance.nextInt(most);
        for (int k = 0; k < n; k++) {
            word.append((asLaw ? "abcd.+" : "abcdz").charAt(chance.nextInt(asLaw ? 6 : 5)));
        }
        return word.toString();
    }

    private static void otherCall(String at) {
        int i = some(0, 1);
        int what = some(0, 7);
        switch (chance.nextInt(6)) {
            case 0: ask(at + "image(" + i + ")", x.image(i), y.image(i)); return;
            case 1: ask(at + "from(" + i + ")", x.from(i), y.from(i)); return;
            case 2: i = some(0, 2); ask(at + "status(" + i + ")", x.status(i), y.status(i)); return;
            case 3: ask(at + "count(" + what + ")", x.count(what), y.count(what)); return;
            case 4: ask(at + "part(" + i + ")", x.part(i), y.part(i)); return;
            default: nightCall(at);
        }
    }
}
