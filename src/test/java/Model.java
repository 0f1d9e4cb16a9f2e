import java.util.ArrayList;
import java.util.Arrays;
import java.util.List;
import java.util.TreeMap;

/**
 * The document said over again in the plainest way, without a thought for speed: all patterns
 * listed, the rows' matrix inverted anew each round, all sequences tried. The program is
 * compared with it, call by call.
 */
final class Model {
    /** What the image holds. */
    static final class State {
        List<int[]> orders = new ArrayList<>(); // width, due
        int size = 60;
        int kerf = 0;
        int knives = 12;
        int keep = 10;
        TreeMap<Integer, Integer> offcuts = new TreeMap<>();

        State copy() {
            State c = new State();
            for (int[] o : orders) {
                c.orders.add(o.clone());
            }
            c.size = size;
            c.kerf = kerf;
            c.knives = knives;
            c.keep = keep;
            c.offcuts.putAll(offcuts);
            return c;
        }
    }

    static final class Cut {
        final int[] pieces;
        int times;

        Cut(int[] pieces, int times) {
            this.pieces = pieces;
            this.times = times;
        }
    }

    State s = new State();
    State image = null;
    StringBuilder tape = new StringBuilder();
    String paper = "";

    // what is worked out
    private List<int[]> all;
    List<Integer> wanted;
    List<int[]> rows;
    List<int[]> began;
    Fraction[][] share;
    Fraction[] amount;
    List<int[]> cameIn;
    List<Integer> cameRow;
    List<Cut> down;
    List<Cut> up;
    List<Integer> sequence;

    int n() {
        return s.orders.size();
    }

    int w(int j) {
        return s.orders.get(j)[0];
    }

    int d(int j) {
        return s.orders.get(j)[1];
    }

    static int sum(int[] a) {
        int t = 0;
        for (int x : a) {
            t += x;
        }
        return t;
    }

    int used(int[] p) {
        int t = 0;
        for (int j = 0; j < p.length; j++) {
            t += p[j] * w(j);
        }
        return t + (sum(p) - 1) * s.kerf;
    }

    boolean isPattern(int[] p) {
        return sum(p) >= 1 && sum(p) <= s.knives && used(p) <= s.size;
    }

    boolean fullUp(int[] p) {
        for (int j = 0; j < p.length; j++) {
            int[] q = p.clone();
            q[j]++;
            if (isPattern(q)) {
                return false;
            }
        }
        return true;
    }

    /** All patterns, the earliest first. */
    List<int[]> all() {
        if (all == null) {
            all = new ArrayList<>();
            list(new int[n()], 0);
        }
        return all;
    }

    private void list(int[] p, int j) {
        if (j == p.length) {
            if (isPattern(p)) {
                all.add(p.clone());
            }
            return;
        }
        for (int c = 12; c >= 0; c--) {
            p[j] = c;
            if (sum(p) == 0 || isPattern(p)) {
                list(p, j + 1);
            }
        }
        p[j] = 0;
    }

    void changed() {
        all = null;
        wanted = null;
        down = null;
        sequence = null;
    }

    // ---- master

    Fraction price(int j) {
        Fraction f = Fraction.ZERO;
        int k = wanted.indexOf(j);
        if (k >= 0) {
            for (int i = 0; i < rows.size(); i++) {
                f = f.plus(share[i][k]);
            }
        }
        return f;
    }

    private Fraction[][] inverse() {
        int m = wanted.size();
        Fraction[][] a = new Fraction[m][2 * m];
        for (int k = 0; k < m; k++) {
            for (int i = 0; i < m; i++) {
                a[k][i] = Fraction.of(rows.get(i)[wanted.get(k)]);
                a[k][m + i] = i == k ? Fraction.ONE : Fraction.ZERO;
            }
        }
        for (int c = 0; c < m; c++) {
            int r = c;
            while (a[r][c].sign() == 0) {
                r++;
            }
            Fraction[] t = a[r];
            a[r] = a[c];
            a[c] = t;
            Fraction lead = a[c][c];
            for (int x = 0; x < 2 * m; x++) {
                a[c][x] = a[c][x].over(lead);
            }
            for (int y = 0; y < m; y++) {
                if (y != c) {
                    Fraction by = a[y][c];
                    for (int x = 0; x < 2 * m; x++) {
                        a[y][x] = a[y][x].minus(by.times(a[c][x]));
                    }
                }
            }
        }
        Fraction[][] inv = new Fraction[m][m];
        for (int i = 0; i < m; i++) {
            for (int k = 0; k < m; k++) {
                inv[i][k] = a[i][m + k];
            }
        }
        return inv;
    }

    private void workOut() {
        share = inverse();
        amount = new Fraction[rows.size()];
        for (int i = 0; i < rows.size(); i++) {
            amount[i] = Fraction.ZERO;
            for (int k = 0; k < rows.size(); k++) {
                amount[i] = amount[i].plus(share[i][k].times(Fraction.of(d(wanted.get(k)))));
            }
        }
    }

    void master() {
        if (wanted != null) {
            return;
        }
        wanted = new ArrayList<>();
        rows = new ArrayList<>();
        cameIn = new ArrayList<>();
        cameRow = new ArrayList<>();
        for (int j = 0; j < n(); j++) {
            if (d(j) > 0) {
                wanted.add(j);
                int[] p = new int[n()];
                p[j] = 1;
                while (isPattern(p)) {
                    p[j]++;
                }
                p[j]--;
                rows.add(p);
            }
        }
        began = new ArrayList<>(rows);
        workOut();
        while (oneComesIn()) {
            workOut();
        }
    }

    private boolean oneComesIn() {
        Fraction best = Fraction.ONE;
        int[] next = null;
        Fraction[] prices = new Fraction[n()];
        for (int j = 0; j < n(); j++) {
            prices[j] = price(j);
        }
        for (int[] p : all()) {
            Fraction sum = Fraction.ZERO;
            boolean wantedAlone = true;
            for (int j = 0; j < n(); j++) {
                wantedAlone &= p[j] == 0 || d(j) > 0;
                sum = sum.plus(prices[j].times(Fraction.of(p[j])));
            }
            if (wantedAlone && sum.compareTo(best) > 0) {
                best = sum;
                next = p;
            }
        }
        if (next == null) {
            return false;
        }
        int m = wanted.size();
        int taken = -1;
        Fraction[] takenRow = null;
        for (int i = 0; i < m; i++) {
            Fraction step = Fraction.ZERO;
            for (int k = 0; k < m; k++) {
                step = step.plus(share[i][k].times(Fraction.of(next[wanted.get(k)])));
            }
            if (step.sign() > 0) {
                Fraction[] row = new Fraction[m + 1];
                row[0] = amount[i].over(step);
                for (int k = 0; k < m; k++) {
                    row[k + 1] = share[i][k].over(step);
                }
                if (takenRow == null || less(row, takenRow)) {
                    taken = i;
                    takenRow = row;
                }
            }
        }
        rows.set(taken, next);
        cameIn.add(next);
        cameRow.add(taken);
        return true;
    }

    private static boolean less(Fraction[] a, Fraction[] b) {
        for (int i = 0; i < a.length; i++) {
            int c = a[i].compareTo(b[i]);
            if (c != 0) {
                return c < 0;
            }
        }
        return false;
    }

    Fraction bound() {
        Fraction f = Fraction.ZERO;
        for (Fraction a : amount) {
            f = f.plus(a);
        }
        return f;
    }

    int leeway(int j) {
        if (j < 0 || j >= n()) {
            return -1;
        }
        master();
        int k = wanted.indexOf(j);
        if (k < 0) {
            return -3;
        }
        boolean bounded = false;
        for (int i = 0; i < rows.size(); i++) {
            bounded |= share[i][k].sign() < 0;
        }
        if (!bounded) {
            return -5;
        }
        for (int more = 1;; more++) {
            for (int i = 0; i < rows.size(); i++) {
                if (amount[i].plus(share[i][k].times(Fraction.of(more))).sign() < 0) {
                    return more - 1;
                }
            }
        }
    }

    int unlike() {
        List<String> seen = new ArrayList<>();
        List<int[]> both = new ArrayList<>(began);
        both.addAll(cameIn);
        for (int[] p : both) {
            String t = Arrays.toString(p);
            if (!seen.contains(t)) {
                seen.add(t);
            }
        }
        return seen.size();
    }

    // ---- plans

    private static void add(List<Cut> plan, int[] p, int times) {
        for (Cut c : plan) {
            if (Arrays.equals(c.pieces, p)) {
                c.times += times;
                return;
            }
        }
        plan.add(new Cut(p.clone(), times));
    }

    static int rollsOf(List<Cut> plan) {
        int t = 0;
        for (Cut c : plan) {
            t += c.times;
        }
        return t;
    }

    void plans() {
        master();
        if (down != null) {
            return;
        }
        down = new ArrayList<>();
        int[] rest = new int[n()];
        for (int j = 0; j < n(); j++) {
            rest[j] = d(j);
        }
        for (int i = 0; i < rows.size(); i++) {
            for (long t = amount[i].down(); t > 0; t--) {
                add(down, rows.get(i), 1);
                for (int j = 0; j < n(); j++) {
                    rest[j] -= rows.get(i)[j];
                }
            }
        }
        while (sum(rest) > 0) {
            int[] best = null;
            for (int[] p : all()) {
                boolean fits = true;
                for (int j = 0; j < n(); j++) {
                    fits &= p[j] <= rest[j];
                }
                if (fits && (best == null || used(p) > used(best))) {
                    best = p;
                }
            }
            add(down, best, 1);
            for (int j = 0; j < n(); j++) {
                rest[j] -= best[j];
            }
        }
        plansUp();
    }

    private void plansUp() {
        List<int[]> rolls = new ArrayList<>();
        int[] over = new int[n()];
        for (int j = 0; j < n(); j++) {
            over[j] = -d(j);
        }
        for (int i = 0; i < rows.size(); i++) {
            for (long t = amount[i].up(); t > 0; t--) {
                rolls.add(rows.get(i).clone());
                for (int j = 0; j < n(); j++) {
                    over[j] += rows.get(i)[j];
                }
            }
        }
        for (int r = rolls.size() - 1; r >= 0; r--) {
            for (int j = 0; j < n(); j++) {
                while (over[j] > 0 && rolls.get(r)[j] > 0) {
                    over[j]--;
                    rolls.get(r)[j]--;
                }
            }
        }
        up = new ArrayList<>();
        for (int[] r : rolls) {
            if (sum(r) > 0) {
                add(up, r, 1);
            }
        }
    }

    List<Cut> plan() {
        plans();
        return rollsOf(up) < rollsOf(down) ? up : down;
    }

    List<int[]> planRolls() {
        List<int[]> r = new ArrayList<>();
        for (Cut c : plan()) {
            for (int t = 0; t < c.times; t++) {
                r.add(c.pieces);
            }
        }
        return r;
    }

    int waste(int[] p) {
        return s.size - used(p);
    }

    // ---- stacks

    int open(List<Integer> seq, int turn) {
        boolean[] seen = new boolean[n()];
        for (Cut c : plan()) {
            boolean cutYet = false;
            for (int t = 0; t <= turn; t++) {
                cutYet |= c.pieces[seq.get(t)] > 0;
            }
            for (int j = 0; j < n(); j++) {
                seen[j] |= cutYet && c.pieces[j] > 0;
            }
        }
        for (int t = 0; t < turn; t++) {
            seen[seq.get(t)] = false;
        }
        int many = 0;
        for (boolean b : seen) {
            many += b ? 1 : 0;
        }
        return many;
    }

    int peak(List<Integer> seq) {
        int p = 0;
        for (int t = 0; t < seq.size(); t++) {
            p = Math.max(p, open(seq, t));
        }
        return p;
    }

    private int leastPeak;

    List<Integer> sequence() {
        plans();
        if (sequence == null) {
            leastPeak = 100;
            tryAll(new ArrayList<>());
        }
        return sequence;
    }

    private void tryAll(List<Integer> seq) {
        if (seq.size() == wanted.size()) {
            if (peak(seq) < leastPeak) {
                leastPeak = peak(seq);
                sequence = new ArrayList<>(seq);
            }
            return;
        }
        for (int j : wanted) {
            if (!seq.contains(j)) {
                seq.add(j);
                tryAll(seq);
                seq.remove(seq.size() - 1);
            }
        }
    }

    // ---- store

    void leftOver(int what) {
        if (what > s.kerf && what - s.kerf >= s.keep) {
            s.offcuts.merge(what - s.kerf, 1, Integer::sum);
        }
    }

    int carry() {
        int due = 0;
        for (int j = 0; j < n(); j++) {
            due += d(j);
        }
        if (due == 0) {
            return -3;
        }
        List<int[]> rolls = planRolls();
        for (int[] p : rolls) {
            leftOver(waste(p));
        }
        for (int[] o : s.orders) {
            o[1] = 0;
        }
        changed();
        return rolls.size();
    }

    int serve() {
        List<int[]> by = new ArrayList<>(s.orders);
        by.sort((a, b) -> b[0] - a[0]);
        int many = 0;
        for (int[] o : by) {
            for (int t = o[1]; t > 0; t--) {
                Integer from = s.offcuts.ceilingKey(o[0]);
                if (from != null) {
                    if (s.offcuts.merge(from, -1, Integer::sum) == 0) {
                        s.offcuts.remove(from);
                    }
                    leftOver(from - o[0]);
                    o[1]--;
                    many++;
                }
            }
        }
        changed();
        return many;
    }

    // ---- texts; a fault is thrown

    static final class Fault extends Exception {
        private static final long serialVersionUID = 1;

        final int at;

        Fault(int at) {
            super("fault at " + at, null, false, false);
            this.at = at;
        }
    }

    private String t;
    private int at;

    private int start() {
        t = tape.toString();
        tape.setLength(0);
        at = 0;
        return 0;
    }

    private boolean is(char c) {
        return at < t.length() && t.charAt(at) == c;
    }

    private void need(char c) throws Fault {
        if (!is(c)) {
            throw new Fault(at);
        }
        at++;
    }

    private int number(int least, int most) throws Fault {
        int from = at;
        while (at < t.length() && at < from + 2 && Character.isDigit(t.charAt(at))) {
            at++;
        }
        if (at == from) {
            throw new Fault(from);
        }
        int v = Integer.parseInt(t.substring(from, at));
        if (v < least || v > most) {
            throw new Fault(from);
        }
        return v;
    }

    int book() {
        start();
        List<int[]> came = new ArrayList<>();
        try {
            do {
                int from = at;
                if (n() + came.size() >= 6) {
                    throw new Fault(from);
                }
                int width = number(5, s.size);
                for (int[] o : s.orders) {
                    if (o[0] == width) {
                        throw new Fault(from);
                    }
                }
                for (int[] o : came) {
                    if (o[0] == width) {
                        throw new Fault(from);
                    }
                }
                need('x');
                came.add(new int[] {width, number(0, 40)});
            } while (more());
        } catch (Fault f) {
            return -100 - f.at;
        }
        s.orders.addAll(came);
        changed();
        return came.size();
    }

    private boolean more() throws Fault {
        if (at == t.length()) {
            return false;
        }
        need(';');
        return true;
    }

    int judge() {
        start();
        List<int[]> told = new ArrayList<>();
        int[] got = new int[n()];
        int rolls = 0;
        try {
            do {
                int times = number(1, 99);
                need('x');
                int[] p = new int[n()];
                int last = -1;
                do {
                    int many = number(1, 12);
                    if (at >= t.length() || t.charAt(at) <= 'a' + last || t.charAt(at) >= 'a' + n()) {
                        throw new Fault(at);
                    }
                    last = t.charAt(at) - 'a';
                    at++;
                    p[last] = many;
                    got[last] += times * many;
                } while (at < t.length() && Character.isDigit(t.charAt(at)));
                told.add(p);
                rolls += times;
            } while (more());
        } catch (Fault f) {
            return -100 - f.at;
        }
        for (int k = 0; k < told.size(); k++) {
            if (!isPattern(told.get(k))) {
                return k;
            }
        }
        for (int j = 0; j < n(); j++) {
            if (got[j] != d(j)) {
                return (got[j] < d(j) ? 100 : 200) + j;
            }
        }
        return 1000 + rolls;
    }

    /** Of each cut, and at last of none (to find a fault), whether the condition is so. */
    private List<Boolean> condition() throws Fault {
        start();
        List<Cut> cuts = new ArrayList<>(plan());
        cuts.add(null);
        List<Boolean> so = new ArrayList<>();
        for (Cut c : cuts) {
            at = 0;
            so.add(either(c, 0));
            if (at < t.length()) {
                throw new Fault(at);
            }
        }
        so.remove(so.size() - 1);
        return so;
    }

    private boolean either(Cut c, int depth) throws Fault {
        boolean b = both(c, depth);
        while (is('|')) {
            at++;
            b |= both(c, depth);
        }
        return b;
    }

    private boolean both(Cut c, int depth) throws Fault {
        boolean b = single(c, depth);
        while (is('&')) {
            at++;
            b &= single(c, depth);
        }
        return b;
    }

    private boolean single(Cut c, int depth) throws Fault {
        if (depth < 4 && is('!')) {
            at++;
            return !single(c, depth + 1);
        }
        if (depth < 4 && is('(')) {
            at++;
            boolean b = either(c, depth + 1);
            need(')');
            return b;
        }
        int from = at;
        while (at < t.length() && Character.isLowerCase(t.charAt(at))) {
            at++;
        }
        int value = value(c, t.substring(from, at), from);
        if (!is('<') && !is('=') && !is('>')) {
            throw new Fault(at);
        }
        char sign = t.charAt(at);
        at++;
        int against = number(0, 99);
        return sign == '<' ? value < against : sign == '=' ? value == against : value > against;
    }

    private int value(Cut c, String word, int from) throws Fault {
        int[] p = c == null ? null : c.pieces;
        switch (word) {
            case "used": return p == null ? 0 : used(p);
            case "waste": return p == null ? 0 : waste(p);
            case "times": return p == null ? 0 : c.times;
            case "pieces": return p == null ? 0 : sum(p);
            case "full": return p == null ? 0 : fullUp(p) ? 1 : 0;
            case "a": case "b": case "c": case "d": case "e": case "f":
                int j = word.charAt(0) - 'a';
                return p == null || j >= p.length ? 0 : p[j];
            default: throw new Fault(from);
        }
    }

    int pick() {
        try {
            int many = 0;
            for (boolean b : condition()) {
                many += b ? 1 : 0;
            }
            return many;
        } catch (Fault f) {
            return -100 - f.at;
        }
    }

    int first() {
        try {
            int i = condition().indexOf(true);
            return i < 0 ? -5 : i;
        } catch (Fault f) {
            return -100 - f.at;
        }
    }

    String spelled() {
        List<String> cuts = new ArrayList<>();
        for (Cut c : plan()) {
            StringBuilder b = new StringBuilder().append(c.times).append('x');
            for (int j = 0; j < n(); j++) {
                if (c.pieces[j] > 0) {
                    b.append(c.pieces[j]).append((char) ('a' + j));
                }
            }
            cuts.add(b.toString());
        }
        return String.join(";", cuts);
    }
}
