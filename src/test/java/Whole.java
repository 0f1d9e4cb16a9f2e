/** All that can be asked of an object, as one text; some 250 calls of the 512 that it is good for. */
final class Whole {
    private Whole() {
    }

    static String of(RollCutter x) {
        StringBuilder b = new StringBuilder();
        for (int what = 0; what < 10; what++) {
            tell(b, "told " + what, x.told(what));
        }
        tell(b, "patterns", x.patterns(0));
        tell(b, "full up", x.patterns(1));
        tell(b, "store", x.store(-1));
        for (int size = 1; size <= 60; size++) {
            tell(b, "store " + size, x.store(size));
        }
        int orders = x.told(0);
        for (int j = 0; j < orders; j++) {
            tell(b, "width " + j, x.of(j, 0));
            tell(b, "due " + j, x.of(j, 1));
            tell(b, "price " + j, x.price(j, 0));
            tell(b, "price below " + j, x.price(j, 1));
            tell(b, "leeway " + j, x.leeway(j));
        }
        master(b, x, orders);
        plan(b, x, orders);
        int paper = x.told(8);
        for (int i = 0; i < paper; i++) {
            tell(b, "paper " + i, x.paper(i));
        }
        return b.toString();
    }

    private static void master(StringBuilder b, RollCutter x, int orders) {
        tell(b, "bound", x.bound(0));
        tell(b, "bound below", x.bound(1));
        tell(b, "least", x.least());
        int rows = x.rows();
        for (int i = 0; i < rows; i++) {
            tell(b, "amount " + i, x.amount(i, 0));
            tell(b, "amount below " + i, x.amount(i, 1));
            for (int j = 0; j < orders; j++) {
                tell(b, "row " + i + " " + j, x.row(i, 10 + j));
                tell(b, "share " + i + " " + j, x.share(i, j, 0));
            }
        }
        int rounds = x.rounds();
        for (int k = 0; k < rounds; k++) {
            tell(b, "took " + k, x.came(k, 0));
            for (int j = 0; j < orders; j++) {
                tell(b, "came " + k + " " + j, x.came(k, 10 + j));
            }
        }
    }

    private static void plan(StringBuilder b, RollCutter x, int orders) {
        tell(b, "rolls down", x.rolls(0));
        tell(b, "rolls up", x.rolls(1));
        int cuts = x.cut(-1, 0);
        for (int i = 0; i < cuts; i++) {
            tell(b, "times " + i, x.cut(i, 0));
            for (int j = 0; j < orders; j++) {
                tell(b, "cut " + i + " " + j, x.cut(i, 10 + j));
            }
        }
        tell(b, "waste", x.waste(-1));
        tell(b, "wasting 1", x.wasting(1));
        tell(b, "peak", x.peak());
        int rows = x.rows();
        for (int i = 0; i < rows; i++) {
            tell(b, "sequence " + i, x.sequence(i));
            tell(b, "open " + i, x.open(i));
        }
    }

    private static void tell(StringBuilder b, String what, long answer) {
        b.append(what).append(": ").append(answer).append('\n');
    }

    /** Two of these texts; of unlike ones the first line that differs is told. */
    static void same(String what, String got, String due) {
        String[] is = got.split("\n");
        String[] was = due.split("\n");
        String unlike = "";
        for (int i = 0; unlike.isEmpty() && i < Math.max(is.length, was.length); i++) {
            String one = i < is.length ? is[i] : "(no more)";
            String other = i < was.length ? was[i] : "(no more)";
            unlike = one.equals(other) ? "" : ": " + one + ", it was " + other;
        }
        Doc.C.due(what + unlike, unlike.isEmpty() ? 1 : 0, 1);
    }
}
