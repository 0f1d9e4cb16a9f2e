/** Promises 8 to 17: rows, amounts, shares, prices, the bound, the rounds, the leeway. */
public final class MasterTest {
    private static final Check C = new Check();
    private static final long NO_SHARE = -1000000000L;

    public static void main(String[] args) {
        nothingWanted();
        oneOrder();
        twoOrders();
        wrongNumbers();
        notWanted();
        limitsOfTheMachine();
        earliestComesIn();
        rowOfSeveral();
        manyRounds();
        leeway();
        leewayOfTheLeast();
        leewayOfNothing();
        kerfJustGoes();
        C.end();
    }

    private static void fraction(String what, long above, long below, long dueAbove, long dueBelow) {
        C.due(what + " above the line", above, dueAbove);
        C.due(what + " below it", below, dueBelow);
    }

    private static void amount(RollCutter x, int i, long above, long below) {
        fraction("amount of " + i, x.amount(i, 0), x.amount(i, 1), above, below);
    }

    private static void share(RollCutter x, int i, int j, long above, long below) {
        fraction("share of " + i + " for " + j, x.share(i, j, 0), x.share(i, j, 1), above, below);
    }

    private static void price(RollCutter x, int j, long above, long below) {
        fraction("price of " + j, x.price(j, 0), x.price(j, 1), above, below);
    }

    private static void bound(RollCutter x, long above, long below) {
        fraction("bound", x.bound(0), x.bound(1), above, below);
    }

    private static void nothingWanted() {
        C.part("promises 8 to 17, nothing wanted");
        RollCutter x = new RollCutter();
        C.due("rows()", x.rows(), 0);
        C.due("row(0, 0)", x.row(0, 0), -1);
        C.due("amount(0, 0)", x.amount(0, 0), -1);
        C.due("share(0, 0, 0)", x.share(0, 0, 0), NO_SHARE);
        C.due("price(0, 0)", x.price(0, 0), -1);
        bound(x, 0, 1);
        C.due("least()", x.least(), 0);
        C.due("rounds()", x.rounds(), 0);
        C.due("came(0, 0)", x.came(0, 0), -1);
        C.due("leeway(0)", x.leeway(0), -1);
        x.order(20, 0);
        C.due("rows()", x.rows(), 0);
        price(x, 0, 0, 1);
        C.due("leeway(0)", x.leeway(0), -3);
        C.due("share(0, 0, 0)", x.share(0, 0, 0), NO_SHARE);
    }

    private static void oneOrder() {
        C.part("promises 8 to 17, one order");
        RollCutter x = new RollCutter();
        x.order(20, 7);
        C.due("rows()", x.rows(), 1);
        C.due("row(0, 0)", x.row(0, 0), 3);
        C.due("row(0, 1)", x.row(0, 1), 60);
        C.due("row(0, 10)", x.row(0, 10), 3);
        amount(x, 0, 7, 3);
        share(x, 0, 0, 1, 3);
        price(x, 0, 1, 3);
        bound(x, 7, 3);
        C.due("least()", x.least(), 3);
        C.due("rounds()", x.rounds(), 0);
        C.due("leeway(0)", x.leeway(0), -5);
        x.due(0, 6);
        amount(x, 0, 2, 1);
        bound(x, 2, 1);
        C.due("least()", x.least(), 2);
        x.due(0, 1);
        C.due("least()", x.least(), 1);
    }

    /**
     * Rows 1a (60 holds one of 40) and 3b; prices 1 and 1/3. 1a1b at 4/3 comes in; its steps are
     * 1 and 1/3, the amounts over them 3 and 5: it takes row 0. Then 1a1b 3 times, 3b 2/3 times.
     */
    private static void twoOrders() {
        C.part("promises 8 to 17, two orders");
        RollCutter x = new RollCutter();
        x.order(40, 3);
        x.order(20, 5);
        C.due("rows()", x.rows(), 2);
        C.due("rounds()", x.rounds(), 1);
        C.due("came(0, 0)", x.came(0, 0), 0);
        C.due("came(0, 1)", x.came(0, 1), 2);
        C.due("came(0, 10)", x.came(0, 10), 1);
        C.due("came(0, 11)", x.came(0, 11), 1);
        C.due("row(0, 0)", x.row(0, 0), 2);
        C.due("row(0, 1)", x.row(0, 1), 60);
        C.due("row(0, 10)", x.row(0, 10), 1);
        C.due("row(0, 11)", x.row(0, 11), 1);
        C.due("row(1, 0)", x.row(1, 0), 3);
        C.due("row(1, 10)", x.row(1, 10), 0);
        C.due("row(1, 11)", x.row(1, 11), 3);
        amount(x, 0, 3, 1);
        amount(x, 1, 2, 3);
        share(x, 0, 0, 1, 1);
        share(x, 0, 1, 0, 1);
        share(x, 1, 0, -1, 3);
        share(x, 1, 1, 1, 3);
        price(x, 0, 2, 3);
        price(x, 1, 1, 3);
        bound(x, 11, 3);
        C.due("least()", x.least(), 4);
        C.due("leeway(0)", x.leeway(0), 2);
        C.due("leeway(1)", x.leeway(1), -5);
    }

    private static void wrongNumbers() {
        C.part("promises 9 to 13, 16, 17, no such number");
        RollCutter x = new RollCutter();
        x.order(40, 3);
        x.order(20, 5);
        int[] none = {-1, 2, 6, 64, Integer.MAX_VALUE, Integer.MIN_VALUE};
        for (int k : none) {
            C.due("row(" + k + ", 0)", x.row(k, 0), -1);
            C.due("row(0, 2 or so)", x.row(0, k == -1 ? 9 : k), -1);
            C.due("amount(" + k + ", 0)", x.amount(k, 0), -1);
            C.due("amount(0, " + k + ")", x.amount(0, k), -1);
            C.due("share(" + k + ", 0, 0)", x.share(k, 0, 0), NO_SHARE);
            C.due("share(0, " + k + ", 0)", x.share(0, k, 0), NO_SHARE);
            C.due("share(0, 0, " + k + ")", x.share(0, 0, k), NO_SHARE);
            C.due("price(" + k + ", 0)", x.price(k, 0), -1);
            C.due("price(0, " + k + ")", x.price(0, k), -1);
            C.due("bound(" + k + ")", x.bound(k), -1);
            C.due("came(" + k + ", 0)", x.came(k, 0), -1);
            C.due("came(0, 2 or so)", x.came(0, k == -1 ? 9 : k), -1);
            C.due("leeway(" + k + ")", x.leeway(k), -1);
        }
        C.due("row(0, 12)", x.row(0, 12), -1);
        C.due("row(0, 2)", x.row(0, 2), -1);
        C.due("row(0, -1)", x.row(0, -1), -1);
        C.due("came(1, 0)", x.came(1, 0), -1);
        C.due("came(0, 12)", x.came(0, 12), -1);
        C.due("came(0, 2)", x.came(0, 2), -1);
        C.due("came(0, -1)", x.came(0, -1), -1);
    }

    /** An order that isn't wanted between two that are: rows are counted without it, orders with it. */
    private static void notWanted() {
        C.part("promises 8 to 17, one not wanted");
        RollCutter x = new RollCutter();
        x.order(40, 3);
        x.order(10, 0);
        x.order(20, 5);
        C.due("rows()", x.rows(), 2);
        C.due("row(1, 0)", x.row(1, 0), 3);
        C.due("row(1, 11)", x.row(1, 11), 0);
        C.due("row(1, 12)", x.row(1, 12), 3);
        C.due("row(1, 13)", x.row(1, 13), -1);
        C.due("rounds()", x.rounds(), 1);
        C.due("came(0, 11)", x.came(0, 11), 0);
        C.due("came(0, 12)", x.came(0, 12), 1);
        share(x, 1, 0, -1, 3);
        share(x, 1, 1, NO_SHARE, NO_SHARE);
        share(x, 1, 2, 1, 3);
        price(x, 0, 2, 3);
        price(x, 1, 0, 1);
        price(x, 2, 1, 3);
        C.due("leeway(0)", x.leeway(0), 2);
        C.due("leeway(1)", x.leeway(1), -3);
        C.due("leeway(2)", x.leeway(2), -5);
        bound(x, 11, 3);
    }

    private static void limitsOfTheMachine() {
        C.part("promises 8 to 15, size, kerf and knives");
        RollCutter x = new RollCutter();
        x.order(40, 3);
        x.order(20, 5);
        x.machine(1, 1);
        // 40 and 20 are 61 with the kerf, 20 and 20 are 41
        C.due("rounds() with kerf", x.rounds(), 0);
        C.due("row(1, 0) with kerf", x.row(1, 0), 2);
        C.due("row(1, 1) with kerf", x.row(1, 1), 41);
        bound(x, 11, 2);
        C.due("least() with kerf", x.least(), 6);
        x.machine(1, 0);
        x.machine(2, 1);
        C.due("rounds() with one knife", x.rounds(), 0);
        bound(x, 8, 1);
        C.due("least() with one knife", x.least(), 8);
        x.machine(2, 2);
        C.due("row(1, 0) with two knives", x.row(1, 0), 2);
        bound(x, 4, 1);
        x.machine(2, 12);
        x.machine(0, 59);
        C.due("rounds() of 59", x.rounds(), 0);
        bound(x, 11, 2);
    }

    /**
     * 30, 29, 31: rows 2a, 2b, 1c, prices 1/2, 1/2, 1; with 30 and 31 being 61, 1b1c alone is above
     * 1, at 3/2. Amounts over steps are 4 for rows 1 and 2; for order 1 the shares over them are 1
     * and 0: row 2 is taken. In the second object 1a1c and 1b1c are both at 3/2: the earliest is 1a1c.
     */
    private static void earliestComesIn() {
        C.part("promise 16, the earliest of several");
        RollCutter x = Calls.withBook("30x4;29x4;31x4");
        C.due("came(0, 10)", x.came(0, 10), 0);
        C.due("came(0, 11)", x.came(0, 11), 1);
        C.due("came(0, 12)", x.came(0, 12), 1);
        C.due("came(0, 0)", x.came(0, 0), 2);
        x = Calls.withBook("28x4;29x4;31x2");
        C.due("came(0, 10)", x.came(0, 10), 1);
        C.due("came(0, 11)", x.came(0, 11), 0);
        C.due("came(0, 12)", x.came(0, 12), 1);
        C.due("came(0, 0)", x.came(0, 0), 2);
        C.due("rounds()", x.rounds(), 1);
        bound(x, 5, 1);
        x = Calls.withBook("29x4;28x4;31x2");
        C.due("came(0, 10), the numbers tell", x.came(0, 10), 1);
    }

    /**
     * 40x3, 20x3, 10x3: rows 1a, 3b, 6c, prices 1, 1/3, 1/6. 1a1b and 1a2c are both at 4/3, the
     * earliest is 1a1b: steps 1 and 1/3, amounts over them 3 and 3. The shares of row 0 for order
     * 0 over its step is 1, of row 1 it is 0: row 1 is taken.
     */
    private static void rowOfSeveral() {
        C.part("promise 16, the row that is taken of several");
        RollCutter x = Calls.withBook("40x3;20x3;10x3");
        C.due("came(0, 10)", x.came(0, 10), 1);
        C.due("came(0, 11)", x.came(0, 11), 1);
        C.due("came(0, 12)", x.came(0, 12), 0);
        C.due("came(0, 0)", x.came(0, 0), 1);
        C.due("row(0, 0)", x.row(0, 0), 3);
        C.due("rounds()", x.rounds(), 2);
        C.due("came(1, 0)", x.came(1, 0), 0);
        C.due("came(1, 1)", x.came(1, 1), 3);
        C.due("came(1, 10)", x.came(1, 10), 1);
        C.due("came(1, 12)", x.came(1, 12), 2);
        bound(x, 7, 2);
    }

    private static void manyRounds() {
        C.part("promises 8 to 15, many rounds");
        RollCutter x = Calls.withBook("13x3;7x1;9x9");
        C.due("rounds()", x.rounds(), 8);
        C.due("told(9)", x.told(9), 9);
        C.due("rows()", x.rows(), 3);
        addsUp(x, 3, 3);
        x = Calls.withBook("5x40;6x39;7x38;8x37;9x36;10x35");
        addsUp(x, 6, 6);
        C.due("least()", x.least(), 28);
    }

    /** The rows' amounts make what is due, the shares the bound's price, no pattern of a row has a price but 1. */
    private static void addsUp(RollCutter x, int rows, int orders) {
        for (int j = 0; j < orders; j++) {
            Fraction cut = Fraction.ZERO;
            Fraction shares = Fraction.ZERO;
            for (int i = 0; i < rows; i++) {
                cut = cut.plus(told(x.amount(i, 0), x.amount(i, 1)).times(Fraction.of(x.row(i, 10 + j))));
                shares = shares.plus(told(x.share(i, j, 0), x.share(i, j, 1)));
            }
            C.due("what is cut of " + j, cut.compareTo(Fraction.of(x.of(j, 1))), 0);
            C.due("shares for " + j, shares.compareTo(told(x.price(j, 0), x.price(j, 1))), 0);
        }
        Fraction sum = Fraction.ZERO;
        for (int i = 0; i < rows; i++) {
            Fraction worth = Fraction.ZERO;
            for (int j = 0; j < orders; j++) {
                worth = worth.plus(told(x.price(j, 0), x.price(j, 1)).times(Fraction.of(x.row(i, 10 + j))));
            }
            C.due("price of the pattern of row " + i, worth.compareTo(Fraction.ONE), 0);
            sum = sum.plus(told(x.amount(i, 0), x.amount(i, 1)));
        }
        C.due("bound", sum.compareTo(told(x.bound(0), x.bound(1))), 0);
        C.due("least", x.least(), sum.up());
    }

    private static Fraction told(long above, long below) {
        return Fraction.of(above).over(Fraction.of(below));
    }

    private static void leeway() {
        C.part("promise 17");
        RollCutter x = Calls.withBook("22x20;17x31;9x40;13x0");
        C.due("leeway(0)", x.leeway(0), 39);
        C.due("leeway(1)", x.leeway(1), 59);
        C.due("leeway(2)", x.leeway(2), 50);
        C.due("leeway(3)", x.leeway(3), -3);
        C.due("leeway(4)", x.leeway(4), -1);
        C.due("leeway(-1)", x.leeway(-1), -1);
    }

    /** Rows 1a1b1c 2, 2b 1, 2c 3/2, the shares of which for a are 1, -1/2, -1/2: 2 and 3 may be more. */
    private static void leewayOfTheLeast() {
        C.part("promise 17, the least of several rows");
        RollCutter x = Calls.withBook("14x2;24x4;22x5");
        C.due("rounds()", x.rounds(), 1);
        share(x, 1, 0, -1, 2);
        share(x, 2, 0, -1, 2);
        amount(x, 1, 1, 1);
        amount(x, 2, 3, 2);
        C.due("leeway(0)", x.leeway(0), 2);
        // for c row 0 is at 0 and falls, row 1 is at 1 and falls, too
        x = Calls.withBook("10x1;36x2;14x1");
        C.due("leeway(2)", x.leeway(2), 0);
        C.due("leeway(0)", x.leeway(0), 2);
    }

    /** Row 1 is taken by 1a1b, all three of it; row 0, 1a, has an amount of 0 then, that b takes from. */
    private static void leewayOfNothing() {
        C.part("promise 17, nothing more");
        RollCutter x = Calls.withBook("40x3;20x3");
        C.due("came(0, 0)", x.came(0, 0), 1);
        amount(x, 0, 0, 1);
        amount(x, 1, 3, 1);
        C.due("leeway(0)", x.leeway(0), -5);
        C.due("leeway(1)", x.leeway(1), 0);
    }

    /** 59 with a kerf of 1: 3a are 57 and 2, 1a1b are 58 and 1; both just go. */
    private static void kerfJustGoes() {
        C.part("promises 8 to 16, kerfs that just go");
        RollCutter x = new RollCutter();
        x.machine(1, 1);
        x.machine(0, 59);
        Calls.book(x, "19x5;39x2");
        C.due("rounds()", x.rounds(), 1);
        C.due("came(0, 0)", x.came(0, 0), 1);
        C.due("row(0, 0)", x.row(0, 0), 3);
        C.due("row(0, 1)", x.row(0, 1), 59);
        C.due("row(1, 0)", x.row(1, 0), 2);
        C.due("row(1, 1)", x.row(1, 1), 59);
        amount(x, 0, 1, 1);
        amount(x, 1, 2, 1);
        x.machine(0, 58);
        C.due("rounds() of 58", x.rounds(), 0);
        C.due("row(0, 0) of 58", x.row(0, 0), 2);
        x.machine(0, 60);
        x.machine(1, 2);
        C.due("rounds(), a kerf of 2", x.rounds(), 1);
        C.due("row(0, 0), 57 and 4", x.row(0, 0), 2);
    }
}
