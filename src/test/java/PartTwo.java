/** Part 2 of the document's terms: the master. */
final class PartTwo {
    private static final Check C = Doc.C;

    private PartTwo() {
    }

    static void all() {
        wanted();
        rows();
        rowsAtFirst();
        amounts();
        shares();
        prices();
        wantedAlone();
        pricesBelowNothing();
        aboveOne();
        earliestComesIn();
        stepAboveNothing();
        leastOverStep();
        sharesOverStep();
        sharesOverStepWithoutOneNotWanted();
        anew();
        asItIsDone();
        bound();
        least();
        leeway();
        leewayFarAndNone();
    }

    private static void fraction(String what, long above, long below, long dueAbove, long dueBelow) {
        C.due(what + " above the line", above, dueAbove);
        C.due(what + " below it", below, dueBelow);
    }

    private static void amount(RollCutter x, int i, long above, long below) {
        fraction("amount of " + i, x.amount(i, 0), x.amount(i, 1), above, below);
    }

    private static void share(RollCutter x, int i, int j, long above, long below) {
        fraction("share of " + i + " for " + j, x.share(i, j, 0), x.share(i, j, 1), above, below);
    }

    private static void price(RollCutter x, int j, long above, long below) {
        fraction("price of " + j, x.price(j, 0), x.price(j, 1), above, below);
    }

    private static void bound(RollCutter x, long above, long below) {
        fraction("bound", x.bound(0), x.bound(1), above, below);
    }

    private static String pattern(java.util.function.IntUnaryOperator pieces) {
        StringBuilder b = new StringBuilder();
        for (int j = 0; j < 6; j++) {
            int many = pieces.applyAsInt(10 + j);
            b.append(many > 0 ? "" + many + (char) ('a' + j) : "");
        }
        return b.toString();
    }

    /** The rows' patterns as they are at the end, by rows. */
    private static void patterns(RollCutter x, String... due) {
        C.due("rows()", x.rows(), due.length);
        for (int k = 0; k < due.length; k++) {
            int i = k;
            String got = pattern(what -> x.row(i, what));
            C.due("row " + i + " is " + due[i] + ", it was " + got, got.equals(due[i]) ? 1 : 0, 1);
        }
    }

    /** What came in and the row that it took, as 1a1b>0. */
    private static void came(RollCutter x, String... due) {
        C.due("rounds()", x.rounds(), due.length);
        for (int n = 0; n < due.length; n++) {
            int k = n;
            String got = pattern(what -> x.came(k, what)) + ">" + x.came(k, 0);
            C.due(due[k] + " came in, it was " + got, got.equals(due[k]) ? 1 : 0, 1);
        }
    }

    private static void wanted() {
        Doc.says("2", "THE MASTER. WANTED are ORDERS that have something DUE.");
        RollCutter x = Calls.withBook("20x0");
        C.due("told(1), nothing due", x.told(1), 0);
        C.due("rows()", x.rows(), 0);
        x.due(0, 1);
        C.due("told(1), one piece due", x.told(1), 1);
        C.due("rows()", x.rows(), 1);
        x.due(0, 40);
        C.due("told(1), forty due", x.told(1), 1);
        x.due(0, 0);
        C.due("told(1), nothing due again", x.told(1), 0);
        C.due("rows()", x.rows(), 0);
        C.due("told(1) of no orders", new RollCutter().told(1), 0);
        C.due("told(1) of six", Calls.withBook("5x1;6x1;7x1;8x1;9x1;10x1").told(1), 6);
    }

    private static void rows() {
        Doc.says("2", "There is a ROW for each, by their numbers: ROW 0, 1, ..;");
        RollCutter x = Calls.withBook("60x0;31x1;59x0;32x2;58x0;33x3");
        patterns(x, "1b", "1d", "1f");
        C.due("row(2, 0)", x.row(2, 0), 1);
        C.due("row(3, 0)", x.row(3, 0), -1);
        x.due(2, 1);
        patterns(x, "1b", "1c", "1d", "1f");
        x.due(0, 1);
        x.due(4, 1);
        patterns(x, "1a", "1b", "1c", "1d", "1e", "1f");
        x.due(0, 0);
        patterns(x, "1b", "1c", "1d", "1e", "1f");
    }

    private static void rowsAtFirst() {
        Doc.says("2", "each has a PATTERN, at first that of the WANTED ORDER alone with as many pieces as can be.");
        RollCutter x = Calls.withBook("5x1");
        patterns(x, "12a");
        x.machine(2, 11);
        patterns(x, "11a");
        x.machine(0, 20);
        patterns(x, "4a");
        x.machine(1, 1);
        patterns(x, "3a");
        x.machine(1, 2);
        patterns(x, "3a");
        x.machine(0, 33);
        // five pieces and four kerfs
        patterns(x, "5a");
        x.machine(0, 32);
        patterns(x, "4a");
        patterns(Calls.withBook("31x40"), "1a");
        patterns(Calls.withBook("30x1"), "2a");
        patterns(Calls.withBook("60x40"), "1a");
        RollCutter y = Calls.withBook("30x5;20x5;10x5");
        patterns(y, "2a", "3b", "6c");
        C.due("told(9), with these alone", y.told(9), 3);
    }

    private static void amounts() {
        Doc.says("2", "AMOUNTS of the ROWS (fractions): such that, each PATTERN cut so often, there is DUE of each WANTED ORDER exactly.");
        RollCutter x = Calls.withBook("5x1");
        amount(x, 0, 1, 12);
        x.due(0, 40);
        amount(x, 0, 10, 3);
        x.due(0, 36);
        amount(x, 0, 3, 1);
        x = Calls.withBook("40x3;20x5");
        patterns(x, "1a1b", "3b");
        amount(x, 0, 3, 1);
        amount(x, 1, 2, 3);
        x.due(1, 3);
        // 1a1b took row 1; a row that isn't cut at all stays a row
        patterns(x, "1a", "1a1b");
        amount(x, 0, 0, 1);
        amount(x, 1, 3, 1);
    }

    private static void shares() {
        Doc.says("2", "SHARE of a ROW for a WANTED ORDER: by how much its AMOUNT were more, if 1 more of that were DUE (all else as it is).");
        RollCutter x = Calls.withBook("22x20;17x31;9x40;13x0");
        patterns(x, "2a1c", "3b1c", "1a4c");
        share(x, 0, 0, 4, 7);
        share(x, 1, 0, 0, 1);
        share(x, 2, 0, -1, 7);
        share(x, 2, 1, -2, 21);
        amount(x, 0, 151, 21);
        amount(x, 2, 118, 21);
        x.due(0, 21);
        patterns(x, "2a1c", "3b1c", "1a4c");
        amount(x, 0, 163, 21);
        amount(x, 1, 31, 3);
        amount(x, 2, 115, 21);
    }

    private static void prices() {
        Doc.says("2", "PRICE of a WANTED ORDER: its SHARES of all ROWS together; of others 0.");
        RollCutter x = Calls.withBook("22x20;17x31;9x40;13x0");
        price(x, 0, 3, 7);
        price(x, 1, 2, 7);
        price(x, 2, 1, 7);
        price(x, 3, 0, 1);
        C.due("price of no order", x.price(4, 0), -1);
        x.due(0, 0);
        price(x, 0, 0, 1);
        x.due(1, 0);
        x.due(2, 0);
        price(x, 2, 0, 1);
        x = Calls.withBook("40x3;20x3");
        // rows 1a and 1a1b: shares 1 and 0 for a, -1 and 1 for b
        share(x, 0, 1, -1, 1);
        price(x, 0, 1, 1);
        price(x, 1, 0, 1);
    }

    /** With a price of 0, ORDER 0 would come in as well: it goes into the roll, and would be earlier. */
    private static void wantedAlone() {
        Doc.says("2", "A ROUND: PRICES of pieces, added up, are the PRICE of a PATTERN (of WANTED ORDERS alone).");
        RollCutter x = Calls.withBook("7x0;10x1;43x1");
        came(x, "1b1c>1");
        patterns(x, "6b", "1b1c");
        x.drop();
        patterns(x, "6b");
        // 12 and 26 and 19 at 1/5 and 1/2 and 1/3 are 31/30
        came(Calls.withBook("12x1;26x1;19x1"), "1a1b1c>2");
    }

    /** 1a1b1c takes row 2 and c's price is -1/4 then: 1a1b comes in without it, though c goes into the roll. */
    private static void pricesBelowNothing() {
        C.part("DOC 2, a price below 0 on the way");
        RollCutter x = Calls.withBook("15x2;38x1;6x1");
        came(x, "1a1b1c>2", "1a1b>1");
        price(x, 0, 1, 4);
        price(x, 1, 3, 4);
        price(x, 2, 0, 1);
        x = Calls.withBook("19x1;6x1;32x2");
        came(x, "1a1b1c>1", "1a1c>0");
        price(x, 0, 0, 1);
        price(x, 1, 0, 1);
        price(x, 2, 1, 1);
    }

    private static void aboveOne() {
        Doc.says("2", "The one with the greatest PRICE (the EARLIEST of several) COMES IN, if that is above 1; if not, the MASTER is DONE.");
        // 2a, 3b, 6c: 1a1b1c is at 1/2 and 1/3 and 1/6, just 1
        came(Calls.withBook("30x5;20x5;10x5"));
        // 1a at 1, 2b at 1/2: with 28 and 31 there is 3/2
        came(Calls.withBook("31x1;28x1"), "1a1b>1");
        came(Calls.withBook("31x1;30x1"));
        // just above: 31/30
        came(Calls.withBook("12x1;26x1;19x1"), "1a1b1c>2");
        // the greatest, not the least one above 1: 1a3b at 13/10, 1a2b at 12/10, 1a1b at 11/10
        came(Calls.withBook("42x1;6x10"), "1a3b>0");
        came(new RollCutter());
        came(Calls.withBook("60x1"));
    }

    private static void earliestComesIn() {
        C.part("DOC 2, the EARLIEST of several comes in");
        // 4a3b and 1a4b are both at 13/12
        came(Calls.withBook("5x2;13x1"), "4a3b>1");
        // 1a1c and 1b1c are both at 3/2, and so are 1b1c and 1c1d behind an order that isn't wanted
        came(Calls.withBook("28x4;29x4;31x2"), "1a1c>2");
        came(Calls.withBook("60x0;28x4;29x4;31x2"), "1b1d>2");
        // 1b1d, 1c1d at 3/2; 1a is at 1 and doesn't go with them
        came(Calls.withBook("45x1;28x4;29x4;31x2"), "1b1d>3");
    }

    /** 2b1c has a step of -1/8 for row 0, the amount of which is 1/8: it isn't asked. */
    private static void stepAboveNothing() {
        Doc.says("2", "STEP of a ROW: for each piece of that PATTERN the ROW's SHARE for its ORDER, added up. Of ROWS with a STEP above 0");
        RollCutter x = Calls.withBook("14x1;19x2;21x1");
        came(x, "1a2c>2", "2b1c>2");
        amount(x, 0, 1, 4);
        amount(x, 1, 0, 1);
        amount(x, 2, 1, 1);
        // a step of 0 for row 1, the amount of which is 0 for nothing
        came(Calls.withBook("16x1;31x2;17x1"), "1a1b>0", "1b1c>1");
        // 2a2b: 2/3, 2/5 and -1/18
        came(Calls.withBook("18x1;12x2;5x1"), "3a1c>0", "2a2b>0");
    }

    private static void leastOverStep() {
        Doc.says("2", "it takes the one whose AMOUNT over STEP is least;");
        // 1a1b: the amounts 3 and 5/3 over the steps 1 and 1/3 are 3 and 5
        came(Calls.withBook("40x3;20x5"), "1a1b>0");
        // 3 and 2
        came(Calls.withBook("40x3;20x2"), "1a1b>1");
        // 3 and 3: the shares tell
        came(Calls.withBook("40x3;20x3"), "1a1b>1");
        // 1/2 and 1/3, though the amounts are 1/6 and 1/4
        came(Calls.withBook("5x2;13x1"), "4a3b>1");
    }

    private static void sharesOverStep() {
        Doc.says("2", "of several that whose SHARE for the first WANTED ORDER over STEP is least, of such for the second one, and so on.");
        // the amounts over the steps are 1 and 1, the shares for a over them 1 and 0
        came(Calls.withBook("10x1;43x1"), "1a1b>1");
        // 1b1c: shares for a over the steps are -1 for row 1 and 0 for row 2
        came(Calls.withBook("16x1;31x2;17x1"), "1a1b>0", "1b1c>1");
        // 1 and 0 and 0 for a, 1 and 0 for b of the latter two
        came(Calls.withBook("12x1;26x1;19x1"), "1a1b1c>2");
        // 0 for a, -1 and 0 for b of rows 2 and 3
        came(Calls.withBook("44x2;29x2;31x4;28x2"), "1b1c>1", "1c1d>2");
        // 0 for a and b, 1 and 0 for c of rows 2 and 3
        came(Calls.withBook("45x2;24x2;37x1;22x1"), "1c1d>3");
        // 0 for a, b and c, 1 and 0 for d of rows 3 and 4
        came(Calls.withBook("37x2;19x4;40x2;28x1;32x1"), "1d1e>4", "1a1b>0", "1b1c>1");
        // 0 for a to d, 1 and 0 for e of rows 4 and 5
        came(Calls.withBook("27x2;30x1;41x3;26x2;35x1;10x2"), "1e2f>5");
        // 2a1b of the fourth round: amounts 0 and 0, shares 0, 1, -1, 0 of rows 1 and 4, then 0 and 1
        came(Calls.withBook("10x1;31x2;27x2;38x1;34x2;25x2"),
                "1b1c>2", "1b1f>1", "1e1f>5", "2a1b>1", "2a1d>0");
        came(Calls.withBook("17x1;24x3;14x3;21x3"),
                "1a2d>0", "1b1c1d>3", "3a>0", "2a1b>1", "1a2d>0", "1a3c>2");
        came(Calls.withBook("12x6;31x1;8x4;44x2;16x2"), "1a1b1e>1", "1d1e>4", "1a1b2c>1", "2c1d>3", "1a6c>2");
    }

    /** The same as above behind an order of which nothing is due. */
    private static void sharesOverStepWithoutOneNotWanted() {
        C.part("DOC 2, the first WANTED ORDER isn't ORDER 0");
        came(Calls.withBook("60x0;10x1;43x1"), "1b1c>1");
        came(Calls.withBook("16x1;60x0;31x2;17x1"), "1a1c>0", "1c1d>1");
        came(Calls.withBook("60x0;12x1;26x1;59x0;19x1"), "1b1c1e>2");
        came(Calls.withBook("60x0;44x2;29x2;31x4;28x2"), "1c1d>1", "1d1e>2");
    }

    private static void anew() {
        Doc.says("2", "Then there are AMOUNTS, SHARES, PRICES anew, and the next ROUND.");
        RollCutter x = Calls.withBook("20x3;40x3;10x3");
        RollCutter y = Calls.withBook("13x3;7x1;9x9");
        C.due("rounds of 13x3;7x1;9x9", y.rounds(), 8);
        // one that came in may come in again, and one with which a row began
        came(Calls.withBook("17x1;24x3;14x3;21x3"),
                "1a2d>0", "1b1c1d>3", "3a>0", "2a1b>1", "1a2d>0", "1a3c>2");
        C.due("told(9): four rows and four others", Calls.withBook("17x1;24x3;14x3;21x3").told(9), 8);
        // each time as from the start
        for (int k = 0; k < 3; k++) {
            came(x, "1a1b>1");
            x.due(0, 0);
            came(x, "1b2c>1");
            x.due(0, 3);
        }
    }

    private static void asItIsDone() {
        Doc.says("2", "All that is asked of it is told of the MASTER as it is DONE.");
        RollCutter x = Calls.withBook("40x3;20x5");
        C.due("row(0, 0), 1a1b and not 1a", x.row(0, 0), 2);
        amount(x, 1, 2, 3);
        share(x, 1, 0, -1, 3);
        price(x, 0, 2, 3);
        bound(x, 11, 3);
        C.due("leeway(0)", x.leeway(0), 2);
        C.due("told(9) tells of those with which it began, too", x.told(9), 3);
    }

    private static void bound() {
        Doc.says("2", "BOUND: AMOUNTS together.");
        bound(new RollCutter(), 0, 1);
        bound(Calls.withBook("20x0"), 0, 1);
        bound(Calls.withBook("5x1"), 1, 12);
        bound(Calls.withBook("5x12"), 1, 1);
        bound(Calls.withBook("40x3;20x5"), 11, 3);
        bound(Calls.withBook("40x3;20x3"), 3, 1);
        bound(Calls.withBook("22x20;17x31;9x40;13x0"), 162, 7);
        bound(Calls.withBook("60x40;59x40;58x40;57x40;56x40;55x40"), 240, 1);
    }

    private static void least() {
        Doc.says("2", "LEAST: BOUND rounded up.");
        C.due("of 0", new RollCutter().least(), 0);
        C.due("of 1/12", Calls.withBook("5x1").least(), 1);
        C.due("of 11/12", Calls.withBook("5x11").least(), 1);
        C.due("of 1", Calls.withBook("5x12").least(), 1);
        C.due("of 13/12", Calls.withBook("5x13").least(), 2);
        C.due("of 11/3", Calls.withBook("40x3;20x5").least(), 4);
        C.due("of 3", Calls.withBook("40x3;20x3").least(), 3);
        C.due("of 240", Calls.withBook("60x40;59x40;58x40;57x40;56x40;55x40").least(), 240);
    }

    private static void leeway() {
        Doc.says("2", "LEEWAY of a WANTED ORDER: the greatest whole number such that DUE could be so much more and no AMOUNT, with the ROWS as they are, were below 0.");
        // row 1 is at 2/3 and falls by 1/3: just 0 for two more
        C.due("to just nothing", Calls.withBook("40x3;20x5").leeway(0), 2);
        // 118/21 over 1/7 is 39 and a third
        RollCutter x = Calls.withBook("22x20;17x31;9x40;13x0");
        C.due("to a bit above", x.leeway(0), 39);
        C.due("more than 40 can be due", x.leeway(1), 59);
        C.due("the rows as they are: another row is at 151/21 and falls by 1/7", x.leeway(2), 50);
        // rows 1 and 2 are at 1 and 3/2 and fall by 1/2
        C.due("the least of several", Calls.withBook("14x2;24x4;22x5").leeway(0), 2);
        // row 0 is at 0 and falls, row 1 is at 1 and falls, too
        C.due("nothing more, whatever the rows behind it let", Calls.withBook("10x1;36x2;14x1").leeway(2), 0);
        // row 0, 1a, is at 0 and falls by 1 for b
        C.due("nothing more", Calls.withBook("40x3;20x3").leeway(1), 0);
    }

    private static void leewayFarAndNone() {
        C.part("DOC 2, LEEWAY without a bound");
        C.due("one order", Calls.withBook("20x7").leeway(0), -5);
        C.due("no row falls", Calls.withBook("40x3;20x5").leeway(1), -5);
        C.due("a row at 0 that doesn't fall", Calls.withBook("40x3;20x3").leeway(0), -5);
        RollCutter x = new RollCutter();
        x.machine(2, 10);
        Calls.book(x, "5x35;28x36;7x1;18x37;14x35");
        C.due("far above what can be due", x.leeway(0), 791);
        x = new RollCutter();
        x.machine(2, 11);
        Calls.book(x, "8x40;14x37;38x38;27x1;5x40");
        C.due("farther", x.leeway(4), 840);
    }
}
