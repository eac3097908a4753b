/** What the tests share: answers are held against those that are due, and a wrong one ends in exit code 1. */
final class Check {
    private static int asked = 0;
    private static int wrong = 0;

    private Check() {
    }

    static void due(String call, long got, long want) {
        asked++;
        if (got != want) {
            wrong++;
            if (wrong <= 50) {
                System.out.println(call + " answered " + got + ", due is " + want);
            }
        }
    }

    static void holds(String what, boolean is) {
        asked++;
        if (!is) {
            wrong++;
            System.out.println("does not hold: " + what);
        }
    }

    static boolean isAllRight() {
        return wrong == 0;
    }

    static void end() {
        System.out.println(asked + " looked at, " + wrong + " wrong");
        System.exit(wrong == 0 ? 0 : 1);
    }

    /** Types a text as the calls do, eight bytes at a time. */
    static void type(NettleShirts x, String text) {
        for (int at = 0; at < text.length(); at += 8) {
            int n = Math.min(8, text.length() - at);
            long v = 0;
            for (int k = 0; k < n; k++) {
                v = v << 8 | text.charAt(at + k) & 255;
            }
            due("type of " + text.substring(at, at + n), x.type(v, n), x.count(7));
        }
    }

    /** A fresh object's answer to the reading of a text. */
    static int reading(String text) {
        NettleShirts x = new NettleShirts();
        type(x, text);
        return x.read();
    }

    static void signs(NettleShirts x, String letters) {
        for (char c : letters.toCharArray()) {
            due("sign " + c, x.sign(c - 'a'), x.count(4));
        }
    }

    static void law(NettleShirts x, int i, String pattern) {
        int n = 0;
        for (char c : pattern.toCharArray()) {
            n++;
            due("law " + i + " " + c, x.law(i, c == '.' ? 26 : c == '+' ? 27 : c - 'a'), n);
        }
    }
}
