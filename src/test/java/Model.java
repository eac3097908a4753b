import java.math.BigInteger;
import java.util.ArrayList;
import java.util.List;
import java.util.regex.Matcher;
import java.util.regex.Pattern;

/**
 * The document once more, in its plainest form: every search goes through all that there is, words are told by the
 * library's patterns, and chances by great numbers. ModelTest holds the program against it.
 */
final class Model {
    private static final class Plot {
        final int kind;
        final int most;
        int nettles;

        Plot(int kind, int n) {
            this.kind = kind;
            this.most = n;
            this.nettles = n;
        }

        Plot copy() {
            Plot p = new Plot(kind, most);
            p.nettles = nettles;
            return p;
        }

        int picks(int night) {
            switch (kind) {
                case 2: case 3: return 4;
                case 4: return night % 3 == 2 ? 0 : 3;
                case 5: return 2;
                default: return 3;
            }
        }

        int hurts() {
            return new int[] {1, 0, 1, 3, 0, 1}[kind];
        }

        int grows(int night) {
            return new int[] {1, night & 1, 1, 2, night & 1, 2}[kind];
        }
    }

    private static final class Work {
        List<Plot> plots = new ArrayList<>();
        List<int[]> shirts = new ArrayList<>();
        int stock;
        int hurt;
        int number;

        Work copy() {
            Work w = new Work();
            for (Plot p : plots) {
                w.plots.add(p.copy());
            }
            for (int[] s : shirts) {
                w.shirts.add(s.clone());
            }
            w.stock = stock;
            w.hurt = hurt;
            w.number = number;
            return w;
        }

        boolean can(int what) {
            return what == 7 || what >= 0 && what < plots.size() || what >= 3 && what < 3 + shirts.size();
        }

        int pass(int what) {
            int answer;
            if (what == 7) {
                hurt = hurt < 2 ? 0 : hurt - 2;
                answer = hurt;
            } else if (what < 3) {
                Plot p = plots.get(what);
                answer = Math.min(p.picks(number), Math.min(p.nettles, 30 - stock));
                p.nettles -= answer;
                stock += answer;
                hurt = Math.min(9, hurt + p.hurts());
            } else {
                int[] s = shirts.get(what - 3);
                answer = Math.min(3 - hurt / 3, Math.min(s[0] - s[1], stock));
                s[1] += answer;
                stock -= answer;
            }
            for (Plot p : plots) {
                p.nettles = Math.min(p.most, p.nettles + p.grows(number));
            }
            number++;
            return answer;
        }

        int sewn() {
            int sum = 0;
            for (int[] s : shirts) {
                sum += s[1];
            }
            return sum;
        }

        boolean done(int some) {
            for (int s = 0; s < shirts.size(); s++) {
                if ((some >> s & 1) == 1 && shirts.get(s)[1] < shirts.get(s)[0]) {
                    return false;
                }
            }
            return true;
        }
    }

    private static final class State {
        Work now = new Work();
        List<Work> undo = new ArrayList<>();
        List<Integer> bare = new ArrayList<>();
        StringBuilder signs = new StringBuilder();
        StringBuilder[] laws = {new StringBuilder(), new StringBuilder(), new StringBuilder(), new StringBuilder()};
        List<List<Integer>> trial = List.of(new ArrayList<>(), new ArrayList<>());

        State copy() {
            State s = new State();
            s.now = now.copy();
            for (Work w : undo) {
                s.undo.add(w.copy());
            }
            s.bare.addAll(bare);
            s.signs.append(signs);
            for (int i = 0; i < 4; i++) {
                s.laws[i].append(laws[i]);
            }
            s.trial.get(0).addAll(trial.get(0));
            s.trial.get(1).addAll(trial.get(1));
            return s;
        }
    }

    private State s = new State();
    private final State[] images = new State[2];
    private StringBuilder text = new StringBuilder();
    private BigInteger above = BigInteger.ZERO;
    private BigInteger below = BigInteger.ONE;
    private final int[] refused = new int[3];

    private int bad() {
        refused[0]++;
        return -2;
    }

    private int no() {
        refused[1]++;
        return -3;
    }

    private int full() {
        refused[2]++;
        return -4;
    }

    private int badAsked() {
        refused[0]++;
        return -10;
    }

    int plot(int kind, int n) {
        if (kind < 0 || kind > 5 || n < 0 || n > 20) {
            return bad();
        }
        if (s.now.plots.size() == 3) {
            return full();
        }
        s.now.plots.add(new Plot(kind, n));
        s.bare.add(0);
        s.undo.clear();
        return s.now.plots.size() - 1;
    }

    int shirt(int parts) {
        if (parts < 1 || parts > 12) {
            return bad();
        }
        if (s.now.shirts.size() == 4) {
            return full();
        }
        s.now.shirts.add(new int[] {parts, 0});
        s.undo.clear();
        return s.now.shirts.size() - 1;
    }

    int night(int what) {
        if (!s.now.can(what)) {
            return bad();
        }
        s.undo.add(s.now.copy());
        if (s.undo.size() > 12) {
            s.undo.remove(0);
        }
        return s.now.pass(what);
    }

    int undo() {
        if (s.undo.isEmpty()) {
            return no();
        }
        s.now = s.undo.remove(s.undo.size() - 1);
        return 1;
    }

    int nettles(int plot) {
        return plot < 0 || plot >= s.now.plots.size() ? bad() : s.now.plots.get(plot).nettles;
    }

    int sewn(int shirt) {
        return shirt < 0 || shirt >= s.now.shirts.size() ? bad() : s.now.shirts.get(shirt)[1];
    }

    int has(int what) {
        return what == 0 ? s.now.stock : what == 1 ? s.now.hurt : bad();
    }

    /** The first of the best plans as digits to the base 8, or null. */
    private int[] bestPlan(int m, int some) {
        int[] best = null;
        int most = -1;
        for (int code = 0; code < 1 << 3 * m; code++) {
            Work w = s.now.copy();
            int[] nights = new int[m];
            boolean is = true;
            for (int k = 0; k < m && is; k++) {
                nights[k] = code >> 3 * (m - 1 - k) & 7;
                is = w.can(nights[k]);
                if (is) {
                    w.pass(nights[k]);
                }
            }
            if (is && w.done(some) && w.sewn() - s.now.sewn() > most) {
                most = w.sewn() - s.now.sewn();
                best = nights;
            }
        }
        return best;
    }

    private Work behind(int[] nights) {
        Work w = s.now.copy();
        for (int what : nights) {
            w.pass(what);
        }
        return w;
    }

    private boolean someAreBad(int some) {
        return some < 0 || some >> s.now.shirts.size() != 0;
    }

    int plan(int m, int i) {
        return inTime(m, 0, i);
    }

    int inTime(int m, int some, int i) {
        if (m < 0 || m > 5 || someAreBad(some) || i < -1) {
            return badAsked();
        }
        int[] best = bestPlan(m, some);
        if (best == null) {
            return -1;
        }
        if (i == -1) {
            return behind(best).sewn() - s.now.sewn();
        }
        return i < m ? best[i] : -5;
    }

    int fewest(int some) {
        if (someAreBad(some)) {
            return bad();
        }
        for (int m = 0; m <= 5; m++) {
            if (bestPlan(m, some) != null) {
                return m;
            }
        }
        return -1;
    }

    int left(int m, int what) {
        if (m < 0 || m > 5 || what < 0 || what > 1) {
            return badAsked();
        }
        Work w = behind(bestPlan(m, 0));
        int all = 0;
        int most = -1;
        int which = -1;
        for (int k = 0; k < w.shirts.size(); k++) {
            int lacks = w.shirts.get(k)[0] - w.shirts.get(k)[1];
            all += lacks;
            if (lacks > most) {
                most = lacks;
                which = k;
            }
        }
        return what == 0 ? all : which;
    }

    /** Row k of how many ways lead to so many stings, sting by sting. */
    private static BigInteger ways(int n, int k, int l) {
        BigInteger[] row = new BigInteger[k + 2];
        java.util.Arrays.fill(row, BigInteger.ZERO);
        row[0] = BigInteger.ONE;
        for (int pick = 0; pick < k; pick++) {
            for (int j = k; j >= 0; j--) {
                BigInteger stung = j == 0 ? BigInteger.ZERO : row[j - 1].multiply(BigInteger.valueOf(n));
                row[j] = row[j].multiply(BigInteger.valueOf(10 - n)).add(stung);
            }
        }
        BigInteger sum = BigInteger.ZERO;
        for (int j = 0; j < l && j <= k; j++) {
            sum = sum.add(row[j]);
        }
        return sum;
    }

    int stings(int n, int k, int l) {
        if (n < 0 || n > 10 || k < 0 || k > 12 || l < 0 || l > 13) {
            return bad();
        }
        BigInteger a = ways(n, k, l);
        BigInteger b = BigInteger.TEN.pow(k);
        BigInteger g = a.gcd(b);
        above = a.divide(g);
        below = b.divide(g);
        return 1;
    }

    int surest(int n, int l, int a, int b) {
        if (n < 0 || n > 10 || l < 0 || l > 13 || a < 1 || a > 99 || b < 1 || b > 99 || a > b) {
            return bad();
        }
        int found = -1;
        for (int k = 0; k <= 12; k++) {
            BigInteger mine = ways(n, k, l).multiply(BigInteger.valueOf(b));
            if (mine.compareTo(BigInteger.TEN.pow(k).multiply(BigInteger.valueOf(a))) >= 0) {
                found = k;
            }
        }
        return found;
    }

    int told(int plot, int n) {
        return plot < 0 || plot >= s.bare.size() || n < 0 || n > 20 ? bad() : s.bare.set(plot, n);
    }

    int bare(int m, int what) {
        if (m < 0 || m > 4 || what < 0 || what > 1) {
            return bad();
        }
        int rows = 0;
        int first = -1;
        for (int code = 0; code < 1 << 3 * m; code++) {
            Work w = s.now.copy();
            boolean is = true;
            for (int k = m - 1; k >= 0 && is; k--) {
                int what1 = code >> 3 * k & 7;
                is = what1 == 7 || what1 < w.plots.size();
                if (is) {
                    w.pass(what1);
                }
            }
            for (int p = 0; p < w.plots.size(); p++) {
                is &= w.plots.get(p).nettles == s.bare.get(p);
            }
            if (is) {
                rows++;
                first = first < 0 ? code : first;
            }
        }
        return what == 0 ? rows : rows == 0 ? no() : first;
    }

    int sign(int c) {
        if (c < 0 || c > 25) {
            return bad();
        }
        if (s.signs.length() == 60) {
            return full();
        }
        s.signs.append((char) ('a' + c));
        return s.signs.length();
    }

    int hush() {
        int n = s.signs.length();
        s.signs.setLength(0);
        return n;
    }

    int law(int i, int c) {
        if (i < 0 || i > 3 || c < 0 || c > 27) {
            return bad();
        }
        if (s.laws[i].length() == 8) {
            return full();
        }
        s.laws[i].append("abcdefghijklmnopqrstuvwxyz.+".charAt(c));
        return s.laws[i].length();
    }

    int noLaw(int i) {
        if (i < 0 || i > 3) {
            return bad();
        }
        int n = s.laws[i].length();
        s.laws[i].setLength(0);
        return n;
    }

    private static int firstWord(String law, String signs) {
        if (law.isEmpty()) {
            return -1;
        }
        Pattern p = Pattern.compile(law.replace("+", ".+"));
        for (int end = 0; end < signs.length(); end++) {
            for (int start = 0; start <= end; start++) {
                if (p.matcher(signs.substring(start, end + 1)).matches()) {
                    return end;
                }
            }
        }
        return -1;
    }

    int word(int i) {
        return i < 0 || i > 3 ? bad() : firstWord(s.laws[i].toString(), s.signs.toString());
    }

    private int silentIn(String signs) {
        int bits = 0;
        for (int i = 0; i < 4; i++) {
            bits |= firstWord(s.laws[i].toString(), signs) == -1 ? 1 << i : 0;
        }
        return bits;
    }

    int silent() {
        return silentIn(s.signs.toString());
    }

    int met(int c, int i) {
        if (c < 0 || c > 25 || i < -1) {
            return badAsked();
        }
        List<String> ways = new ArrayList<>(List.of(""));
        for (int at = 0; at < ways.size(); at++) {
            String more = ways.get(at);
            String all = s.signs + more;
            if (all.endsWith(String.valueOf((char) ('a' + c))) && silentIn(all) == silent()) {
                return i == -1 ? more.length() : i < more.length() ? more.charAt(i) - 'a' : -5;
            }
            for (char d = 'a'; d <= 'd' && more.length() < 3; d++) {
                ways.add(more + d);
            }
        }
        return -1;
    }

    int show(int what, int weight) {
        if (what < 0 || what > 1 || weight < 1 || weight > 9) {
            return bad();
        }
        if (s.trial.get(what).size() == 4) {
            return full();
        }
        s.trial.get(what).add(weight);
        return s.trial.get(what).size() - 1;
    }

    int noTrial() {
        int n = s.trial.get(0).size() + s.trial.get(1).size();
        s.trial.get(0).clear();
        s.trial.get(1).clear();
        return n;
    }

    private static int goesOn(List<Integer> his, List<Integer> other, int lead, int l, boolean hers) {
        if (lead >= l || his.isEmpty()) {
            return 0;
        }
        int best = -1;
        for (int k = 0; k < his.size(); k++) {
            int more = 1 + goesOn(other, without(his, k), hers ? lead - his.get(k) : lead + his.get(k), l, !hers);
            best = best == -1 ? more : hers ? Math.max(best, more) : Math.min(best, more);
        }
        return best;
    }

    private static List<Integer> without(List<Integer> all, int k) {
        List<Integer> rest = new ArrayList<>(all);
        rest.remove(k);
        return rest;
    }

    int lasts(int l, int what) {
        if (l < 1 || l > 20 || what < 0 || what > 1) {
            return bad();
        }
        List<Integer> charges = s.trial.get(0);
        int all = goesOn(charges, s.trial.get(1), 0, l, false);
        if (what == 0) {
            return all;
        }
        for (int k = 0; k < charges.size(); k++) {
            if (1 + goesOn(s.trial.get(1), without(charges, k), charges.get(k), l, true) == all) {
                return k;
            }
        }
        return -1;
    }

    int type(long v, int n) {
        if (n < 1 || n > 8) {
            return bad();
        }
        if (text.length() + n > 200) {
            return full();
        }
        for (int k = 0; k < n; k++) {
            text.append((char) (v >>> 8 * (n - 1 - k) & 255));
        }
        return text.length();
    }

    int clear() {
        int n = text.length();
        text.setLength(0);
        return n;
    }

    private static final Pattern TOKEN = Pattern.compile("[a-z.+]+|[0-9]+|[^ ]", Pattern.DOTALL);

    /** For each item the patterns that its tokens match, in their order. */
    private static final String[] FORMS = {
        "plot [0-9]{1,2} [0-9]{1,2} ;", "shirt [0-9]{1,2} ;", "charge [0-9]{1,2} ;", "proof [0-9]{1,2} ;",
        "law [0-9]{1,2} [a-z.+]{1,8} ;", "day [a-z]{1,60} ;"};

    int read() {
        List<String[]> items = new ArrayList<>();
        Matcher tokens = TOKEN.matcher(text);
        while (tokens.find()) {
            String[] form = null;
            for (String f : FORMS) {
                if (f.startsWith(tokens.group() + " ")) {
                    form = f.split(" ");
                }
            }
            if (form == null) {
                return -10 - tokens.start();
            }
            String[] item = new String[form.length];
            item[0] = form[0];
            for (int k = 1; k < form.length; k++) {
                if (!tokens.find()) {
                    return -10 - text.length();
                }
                if (!tokens.group().matches(form[k])) {
                    return -10 - tokens.start();
                }
                item[k] = tokens.group();
            }
            items.add(item);
        }
        return tellAll(items);
    }

    private int tellAll(List<String[]> items) {
        State was = s;
        int[] counts = refused.clone();
        s = new State();
        int answer = items.size();
        for (int k = 0; k < items.size() && answer == items.size(); k++) {
            if (tellItem(items.get(k)) < 0) {
                answer = -1000 - k;
                s = was;
            }
        }
        System.arraycopy(counts, 0, refused, 0, 3);
        return answer;
    }

    private int tellItem(String[] item) {
        switch (item[0]) {
            case "plot": return plot(Integer.parseInt(item[1]), Integer.parseInt(item[2]));
            case "shirt": return shirt(Integer.parseInt(item[1]));
            case "charge": return show(0, Integer.parseInt(item[1]));
            case "proof": return show(1, Integer.parseInt(item[1]));
            default:
        }
        int worst = 0;
        for (char c : item[item.length - 2].toCharArray()) {
            int sign = "abcdefghijklmnopqrstuvwxyz.+".indexOf(c);
            worst = Math.min(worst, item[0].equals("law") ? law(Integer.parseInt(item[1]), sign) : sign(sign));
        }
        return worst;
    }

    long part(int what) {
        return what == 0 ? above.longValueExact() : what == 1 ? below.longValueExact() : bad();
    }

    int image(int i) {
        if (i < 0 || i > 1) {
            return bad();
        }
        images[i] = s.copy();
        return 1;
    }

    int from(int i) {
        if (i < 0 || i > 1) {
            return bad();
        }
        if (images[i] == null) {
            return no();
        }
        s = images[i].copy();
        return 1;
    }

    int status(int what) {
        if (what < 0 || what > 2) {
            refused[0]++;
            return -1;
        }
        return refused[what];
    }

    int count(int what) {
        int[] all = counts();
        return what < 0 || what > 7 ? bad() : all[what];
    }

    private int[] counts() {
        return new int[] {s.now.plots.size(), s.now.shirts.size(), s.now.number, s.undo.size(), s.signs.length(),
            s.trial.get(0).size(), s.trial.get(1).size(), text.length()};
    }

    long digest() {
        List<Long> all = new ArrayList<>();
        for (int c : counts()) {
            all.add((long) c);
        }
        all.add((long) s.now.stock);
        all.add((long) s.now.hurt);
        for (int p = 0; p < s.now.plots.size(); p++) {
            Plot plot = s.now.plots.get(p);
            all.addAll(List.of((long) plot.kind, (long) plot.nettles, (long) plot.most, (long) s.bare.get(p)));
        }
        for (int[] shirt : s.now.shirts) {
            all.addAll(List.of((long) shirt[0], (long) shirt[1]));
        }
        for (char c : s.signs.toString().toCharArray()) {
            all.add((long) c - 'a');
        }
        for (StringBuilder law : s.laws) {
            all.add((long) law.length());
            for (char c : law.toString().toCharArray()) {
                all.add((long) "abcdefghijklmnopqrstuvwxyz.+".indexOf(c));
            }
        }
        for (List<Integer> side : s.trial) {
            for (int weight : side) {
                all.add((long) weight);
            }
        }
        all.add(above.longValueExact());
        all.add(below.longValueExact());
        long h = 821;
        for (long v : all) {
            h = 31 * h + v;
        }
        return h;
    }
}
