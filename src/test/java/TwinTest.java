/**
 * Runs of calls made up by a fixed rule, each answer compared with the model's. Arguments:
 * how many runs (2000 unless told), and from which on (0).
 */
public final class TwinTest {
    private static final int MOST_CALLS = 512;
    /** A text is 95 bytes at most, and the call that reads it comes behind. */
    private static final int MOST_AT_ONCE = 100;

    private final Check check;
    private final int run;
    private final RollCutter x = new RollCutter();
    private final Twin t = new Twin();
    private long seed;
    private int calls = 0;
    private final StringBuilder told = new StringBuilder();

    private TwinTest(Check check, int run) {
        this.check = check;
        this.run = run;
        this.seed = run * 0x9E3779B97F4A7C15L + 12345;
        below(7);
    }

    public static void main(String[] args) {
        int runs = args.length > 0 ? Integer.parseInt(args[0]) : 2000;
        int from = args.length > 1 ? Integer.parseInt(args[1]) : 0;
        Check check = new Check();
        for (int run = from; run < from + runs; run++) {
            check.part("run " + run);
            new TwinTest(check, run).go();
            if (check.wrong() > 0) {
                break;
            }
        }
        check.end();
    }

    /** A number 0 .. n - 1, from a sequence that is always the same. */
    private int below(int n) {
        seed = seed * 6364136223846793005L + 1442695040888963407L;
        return (int) Math.floorMod(seed >>> 33, (long) n);
    }

    private boolean oneIn(int n) {
        return below(n) == 0;
    }

    /** Each of the object's calls is asked by this, and so counted: it is good for 512. */
    private void due(String call, long got, long want) {
        calls++;
        told.append(call).append(" -> ").append(want).append('\n');
        if (got != want) {
            System.out.print(told);
        }
        check.due(call, got, want);
    }

    private void go() {
        setUp();
        while (calls < MOST_CALLS - MOST_AT_ONCE) {
            change();
            if (calls < MOST_CALLS - MOST_AT_ONCE) {
                ask();
            }
        }
        if (calls > MOST_CALLS) {
            check.due("calls of one object", calls, MOST_CALLS);
        }
    }

    private void setUp() {
        if (oneIn(2)) {
            machine(1, below(3));
        }
        if (oneIn(3)) {
            machine(2, 1 + below(12));
        }
        if (oneIn(3)) {
            machine(0, 20 + below(41));
        }
        int widest = 8 + below(53);
        int many = run % 5 == 0 ? below(7) : 3 + below(4);
        for (int k = 0; k < many; k++) {
            order(5 + below(widest - 4), oneIn(6) ? 0 : below(41));
        }
    }

    private void change() {
        switch (below(12)) {
            case 0: order(orFar(3 + below(60)), orFar(below(42))); break;
            case 1: case 2: case 3: dueOf(orFar(below(7) - (oneIn(9) ? 1 : 0)), orFar(below(42))); break;
            case 4: machine(orFar(below(5)), orFar(below(62))); break;
            case 5: machine(1, orFar(below(4))); break;
            case 6: machine(2, orFar(below(14))); break;
            case 7: machine(3, orFar(1 + below(15))); break;
            case 8: store(); break;
            case 9: image(); break;
            case 10: bookText(); break;
            default:
                if (oneIn(3)) {
                    due("drop()", x.drop(), t.drop());
                }
        }
    }

    private void machine(int what, int v) {
        due("machine(" + what + ", " + v + ")", x.machine(what, v), t.machine(what, v));
    }

    private void order(int width, int pieces) {
        due("order(" + width + ", " + pieces + ")", x.order(width, pieces), t.order(width, pieces));
    }

    private void dueOf(int order, int pieces) {
        due("due(" + order + ", " + pieces + ")", x.due(order, pieces), t.due(order, pieces));
    }

    private void store() {
        if (oneIn(3)) {
            due("carry()", x.carry(), t.carry());
        }
        for (int k = below(8); k > 0; k--) {
            int size = orFar(below(62));
            due("put(" + size + ")", x.put(size), t.put(size));
        }
        if (oneIn(2)) {
            due("serve()", x.serve(), t.serve());
        }
        for (int k = 0; k < 12; k++) {
            int size = orFar(below(65) - 2);
            due("store(" + size + ")", x.store(size), t.store(size));
        }
    }

    private void image() {
        if (oneIn(2)) {
            due("image()", x.image(), t.image());
        } else {
            due("undo()", x.undo(), t.undo());
        }
    }

    private void ask() {
        switch (below(8)) {
            case 0: askOrders(); break;
            case 1: askRows(); break;
            case 2: askRounds(); break;
            case 3: askPlan(); break;
            case 4: askStacks(); break;
            case 5: conditionText(); break;
            case 6: toldText(); break;
            default: askPaper();
        }
    }

    /** Mostly the number itself, now and then one from far away. */
    private int orFar(int n) {
        return oneIn(40) ? Ask.FAR[below(Ask.FAR.length)] : n;
    }

    private int part() {
        return orFar(oneIn(12) ? below(5) - 2 : below(2));
    }

    /** Most often pieces of an order, else one of the first numbers, or one that is none. */
    private int what() {
        return orFar(oneIn(2) ? 10 + below(7) : below(6) - 1);
    }

    private int number(int there) {
        return orFar(below(there + 2) - (oneIn(8) ? 1 : 0));
    }

    private void askOrders() {
        for (int n = 0; n < 3; n++) {
            int j = below(8) - 1;
            int what = below(4) - 1;
            due("of(" + j + ", " + what + ")", x.of(j, what), t.of(j, what));
            int kind = below(4) - 1;
            due("patterns(" + kind + ")", x.patterns(kind), t.patterns(kind));
        }
        for (int k = -1; k < 11; k++) {
            due("told(" + k + ")", x.told(k), t.told(k));
        }
    }

    private void askRows() {
        due("rows()", x.rows(), t.rows());
        due("bound(0)", x.bound(0), t.bound(0));
        due("bound(1)", x.bound(1), t.bound(1));
        due("least()", x.least(), t.least());
        for (int n = 0; n < 16; n++) {
            int i = number(t.rows());
            int j = number(6);
            int part = part();
            int what = what();
            due("row(" + i + ", " + what + ")", x.row(i, what), t.row(i, what));
            due("amount(" + i + ", " + part + ")", x.amount(i, part), t.amount(i, part));
            due("share(" + i + ", " + j + ", " + part + ")", x.share(i, j, part), t.share(i, j, part));
            due("price(" + j + ", " + part + ")", x.price(j, part), t.price(j, part));
        }
        int part = below(4) - 1;
        due("bound(" + part + ")", x.bound(part), t.bound(part));
    }

    private void askRounds() {
        due("rounds()", x.rounds(), t.rounds());
        for (int n = 0; n < 40; n++) {
            int k = number(t.rounds());
            int what = what();
            due("came(" + k + ", " + what + ")", x.came(k, what), t.came(k, what));
        }
        for (int j = -1; j < 7; j++) {
            due("leeway(" + j + ")", x.leeway(j), t.leeway(j));
        }
        due("told(9)", x.told(9), t.told(9));
    }

    private void askPlan() {
        for (int way = -1; way < 4; way++) {
            due("rolls(" + way + ")", x.rolls(way), t.rolls(way));
        }
        for (int n = 0; n < 40; n++) {
            int i = number(t.cut(-1, 0));
            int what = what();
            due("cut(" + i + ", " + what + ")", x.cut(i, what), t.cut(i, what));
        }
        for (int n = 0; n < 20; n++) {
            int roll = number(t.rolls(2));
            due("waste(" + roll + ")", x.waste(roll), t.waste(roll));
        }
        due("waste(-1)", x.waste(-1), t.waste(-1));
        int least = orFar(below(62) - 1);
        due("wasting(" + least + ")", x.wasting(least), t.wasting(least));
    }

    private void askStacks() {
        due("peak()", x.peak(), t.peak());
        for (int i = -1; i < 7; i++) {
            due("sequence(" + i + ")", x.sequence(i), t.sequence(i));
            due("open(" + i + ")", x.open(i), t.open(i));
        }
    }

    private void askPaper() {
        if (oneIn(2)) {
            due("spell()", x.spell(), t.spell());
        }
        for (int n = 0; n < 40; n++) {
            int i = number(t.told(8));
            due("paper(" + i + ")", x.paper(i), t.paper(i));
        }
    }

    // ---- texts: mostly such ones, here and there a byte changed, dropped or put in

    private void feed(String text) {
        StringBuilder b = new StringBuilder(text);
        if (oneIn(3)) {
            int at = below(b.length() + 1);
            char c = "0123456789xabcdefg;:&|!()<=> usdwpt".charAt(below(35));
            switch (below(3)) {
                case 0: b.insert(at, c); break;
                case 1: b.delete(at, at + 1 + below(2)); break;
                default: b.replace(at, Math.min(b.length(), at + 1), String.valueOf(c));
            }
        }
        for (int i = 0; i < Math.min(95, b.length()); i++) {
            due("feed('" + b.charAt(i) + "')", x.feed(b.charAt(i)), t.feed(b.charAt(i)));
        }
    }

    private void bookText() {
        StringBuilder b = new StringBuilder();
        for (int k = 1 + below(4); k > 0; k--) {
            b.append(4 + below(58)).append('x').append(below(43)).append(k > 1 ? ";" : "");
        }
        feed(b.toString());
        due("book()", x.book(), t.book());
    }

    private void toldText() {
        StringBuilder b = new StringBuilder();
        if (oneIn(2)) {
            b.append(t.m.spelled());
        } else {
            for (int k = 1 + below(3); k > 0; k--) {
                b.append(below(20)).append('x');
                for (int j = 0; j < 6; j++) {
                    b.append(oneIn(3) ? "" + below(5) + (char) ('a' + j) : "");
                }
                b.append(k > 1 ? ";" : "");
            }
        }
        feed(b.toString());
        due("judge()", x.judge(), t.judge());
    }

    private void conditionText() {
        StringBuilder b = new StringBuilder();
        either(b, 0);
        feed(b.toString());
        if (oneIn(2)) {
            due("pick()", x.pick(), t.pick());
        } else {
            due("first()", x.first(), t.first());
        }
    }

    private void either(StringBuilder b, int depth) {
        for (int k = 1 + below(3); k > 0; k--) {
            single(b, depth);
            b.append(k == 1 ? "" : oneIn(2) ? "&" : "|");
        }
    }

    private void single(StringBuilder b, int depth) {
        int how = below(5 + depth);
        if (how == 0 && depth < 6) {
            b.append('!');
            single(b, depth + 1);
        } else if (how == 1 && depth < 6) {
            b.append('(');
            either(b, depth + 1);
            b.append(')');
        } else {
            String[] words = {"used", "waste", "times", "pieces", "full", "a", "b", "c", "d", "e", "f"};
            String word = words[below(words.length)];
            int about = word.equals("used") ? 62 : word.equals("full") ? 2 : 8;
            b.append(word).append("<=>".charAt(below(3))).append(below(about));
        }
    }
}
