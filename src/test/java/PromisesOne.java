/** The document's promises 1 to 19, each with the numbers on both sides of its bounds. */
final class PromisesOne {
    private static final Check C = Doc.C;
    private static final long NO_SHARE = -1000000000L;

    private PromisesOne() {
    }

    static void all() {
        newObject();
        order();
        due();
        of();
        drop();
        machine();
        machineBad();
        patterns();
        rows();
        row();
        amount();
        share();
        price();
        bound();
        least();
        rounds();
        came();
        leeway();
        rolls();
        cut();
    }

    private static void newObject() {
        Doc.promise(1, "No ORDERS.");
        RollCutter x = new RollCutter();
        int[] told = {0, 0, 0, 60, 0, 12, 10, 0, 0, 0};
        for (int what = 0; what < told.length; what++) {
            C.due("told(" + what + ")", x.told(what), told[what]);
        }
        C.due("of(0, 0)", x.of(0, 0), -1);
        C.due("drop()", x.drop(), -3);
        C.due("store(-1)", x.store(-1), 0);
        C.due("undo()", x.undo(), -3);
        x.order(20, 1);
        x.put(60);
        x.machine(0, 59);
        x.image();
        RollCutter y = new RollCutter();
        C.due("orders of another one", y.told(0), 0);
        C.due("offcuts of another one", y.store(-1), 0);
        C.due("SIZE of another one", y.told(3), 60);
        C.due("image of another one", y.undo(), -3);
        C.due("orders of the first", x.told(0), 1);
    }

    private static void order() {
        Doc.promise(2, "An ORDER comes: its number. BAD: width (above SIZE, had already, too), due; FULL.");
        RollCutter x = new RollCutter();
        x.machine(0, 50);
        C.due("the first", x.order(50, 40), 0);
        C.due("of(0, 0)", x.of(0, 0), 50);
        C.due("of(0, 1)", x.of(0, 1), 40);
        C.due("told(1)", x.told(1), 1);
        Ask.far("width", -2, w -> x.order(w, 1), 4, 51, 60, 61, 50, 0, -50);
        Ask.far("due", -2, d -> x.order(20, d), -1, 41);
        C.due("the second", x.order(5, 0), 1);
        C.due("the third", x.order(6, 1), 2);
        C.due("the fourth", x.order(7, 1), 3);
        C.due("the fifth", x.order(8, 1), 4);
        C.due("the sixth", x.order(9, 1), 5);
        Ask.same("a seventh", -4, w -> x.order(w, 1), 10, 20, 49);
        C.due("had already, a seventh", x.order(9, 1), -2);
        C.due("above SIZE, a seventh", x.order(51, 1), -2);
        C.due("told(0)", x.told(0), 6);
    }

    private static void due() {
        Doc.promise(3, "DUE becomes another: what it was. NONE; BAD.");
        RollCutter x = Calls.withBook("30x5;20x0");
        C.due("from 5 to 40", x.due(0, 40), 5);
        C.due("from 40 to 40", x.due(0, 40), 40);
        C.due("from 40 to 0", x.due(0, 0), 40);
        C.due("from 0 to 1", x.due(1, 1), 0);
        Ask.far("order", -1, j -> x.due(j, 1), -1, 2, 6);
        Ask.far("pieces", -2, d -> x.due(0, d), -1, 41);
        Ask.far("order, and pieces that are bad", -1, j -> x.due(j, 41), -1, 2);
        C.due("of(0, 1)", x.of(0, 1), 0);
        C.due("of(1, 1)", x.of(1, 1), 1);
        C.due("least()", x.least(), 1);
        C.due("of no orders", new RollCutter().due(0, 1), -1);
    }

    private static void of() {
        Doc.promise(4, "Of an ORDER what 0 WIDTH, 1 DUE. NONE: order, what.");
        RollCutter x = Calls.withBook("31x5;17x6");
        C.due("of(0, 0)", x.of(0, 0), 31);
        C.due("of(0, 1)", x.of(0, 1), 5);
        C.due("of(1, 0)", x.of(1, 0), 17);
        C.due("of(1, 1)", x.of(1, 1), 6);
        Ask.far("order", -1, j -> x.of(j, 0), -1, 2, 5, 6);
        Ask.far("what", -1, what -> x.of(1, what), -1, 2, 10, 11);
        C.due("of no orders", new RollCutter().of(0, 0), -1);
        x.drop();
        C.due("of one that went", x.of(1, 0), -1);
    }

    private static void drop() {
        Doc.promise(5, "The last ORDER is gone: how many there are. STATE: there is none.");
        RollCutter x = Calls.withBook("31x5;17x6;12x7");
        C.due("of three", x.drop(), 2);
        C.due("of(1, 0)", x.of(1, 0), 17);
        C.due("of(2, 0)", x.of(2, 0), -1);
        C.due("told(2)", x.told(2), 11);
        C.due("of two", x.drop(), 1);
        C.due("of one", x.drop(), 0);
        C.due("of none", x.drop(), -3);
        C.due("of none again", x.drop(), -3);
        C.due("told(0)", x.told(0), 0);
        C.due("one comes again", x.order(17, 1), 0);
        C.due("and goes again", x.drop(), 0);
    }

    private static void machine() {
        Doc.promise(6, "What 0 SIZE, 1 KERF, 2 KNIVES, 3 KEEP becomes v: what it was.");
        RollCutter x = new RollCutter();
        int[] first = {60, 0, 12, 10};
        int[] least = {20, 0, 1, 1};
        int[] most = {60, 2, 12, 60};
        for (int what = 0; what < 4; what++) {
            C.due("what it was at first, " + what, x.machine(what, least[what]), first[what]);
            C.due("told", x.told(3 + what), least[what]);
            C.due("from the least to the most, " + what, x.machine(what, most[what]), least[what]);
            C.due("told", x.told(3 + what), most[what]);
            C.due("the same again, " + what, x.machine(what, most[what]), most[what]);
            C.due("back again, " + what, x.machine(what, first[what]), most[what]);
        }
    }

    private static void machineBad() {
        Doc.promise(6, "NONE: what; BAD: v (a SIZE below a WIDTH, too).");
        RollCutter x = new RollCutter();
        Ask.far("what", -1, what -> x.machine(what, 1), -1, 4, 5);
        Ask.far("what, and a v that is bad", -1, what -> x.machine(what, -1), -1, 4);
        Ask.far("SIZE", -2, v -> x.machine(0, v), 19, 61, 0, 10, -20);
        Ask.far("KERF", -2, v -> x.machine(1, v), -1, 3);
        Ask.far("KNIVES", -2, v -> x.machine(2, v), 0, 13, -1);
        Ask.far("KEEP", -2, v -> x.machine(3, v), 0, 61, -1);
        x.order(45, 0);
        x.order(30, 1);
        C.due("SIZE below a WIDTH", x.machine(0, 44), -2);
        C.due("SIZE below both", x.machine(0, 29), -2);
        C.due("told(3)", x.told(3), 60);
        C.due("SIZE as the WIDTH", x.machine(0, 45), 60);
        x.drop();
        x.drop();
        C.due("no WIDTH any more", x.machine(0, 20), 45);
    }

    private static void patterns() {
        Doc.promise(7, "How many PATTERNS of all ORDERS there are (kind 0), of them FULL UP ones (1). NONE.");
        RollCutter x = new RollCutter();
        C.due("of none", x.patterns(0), 0);
        C.due("full up of none", x.patterns(1), 0);
        Ask.far("kind", -1, x::patterns, -1, 2, 3);
        x.machine(0, 20);
        C.due("of none in a small roll", x.patterns(0), 0);
        C.due("full up of none in a small roll", x.patterns(1), 0);
        x.machine(0, 60);
        Calls.book(x, "22x20;17x31;9x40;13x0");
        C.due("of four, one not wanted", x.patterns(0), 58);
        C.due("full up of four", x.patterns(1), 21);
        x.due(0, 0);
        C.due("whatever is due", x.patterns(0), 58);
        Ask.far("kind", -1, x::patterns, -1, 2, 3);
        RollCutter y = Calls.withBook("60x0");
        C.due("of one as wide as the roll", y.patterns(0) * 10 + y.patterns(1), 11);
        y = Calls.withBook("5x0");
        C.due("of one, twelve", y.patterns(0) * 10 + y.patterns(1), 121);
        y.machine(2, 1);
        C.due("with one knife", y.patterns(0) * 10 + y.patterns(1), 11);
        x.machine(1, 1);
        C.due("with a kerf", x.patterns(0) * 100 + x.patterns(1), 5220);
        x.machine(1, 2);
        C.due("with a kerf of 2", x.patterns(0) * 100 + x.patterns(1), 4418);
        x.machine(2, 4);
        C.due("with a kerf of 2 and four knives", x.patterns(0) * 100 + x.patterns(1), 4218);
        // 1a2b are 58 and 2, 2a1b 59 and 2
        y = Calls.withBook("20x0;19x0");
        y.machine(1, 1);
        C.due("with a kerf that just goes", y.patterns(0) * 10 + y.patterns(1), 73);
        y.machine(0, 59);
        C.due("and goes no more", y.patterns(0) * 10 + y.patterns(1), 63);
        // ten pieces with nine kerfs are 59
        y = Calls.withBook("5x0");
        y.machine(1, 1);
        y.machine(0, 59);
        C.due("with kerfs that just go", y.patterns(0), 10);
        y.machine(0, 58);
        C.due("and go no more", y.patterns(0), 9);
    }

    private static void rows() {
        Doc.promise(8, "How many ROWS there are.");
        C.due("of no orders", new RollCutter().rows(), 0);
        C.due("of none wanted", Calls.withBook("20x0;21x0").rows(), 0);
        C.due("of one wanted", Calls.withBook("20x0;21x1").rows(), 1);
        C.due("of six wanted", Calls.withBook("20x1;21x1;22x1;23x1;24x1;25x1").rows(), 6);
    }

    private static void row() {
        Doc.promise(9, "Of ROW i what 0 how many pieces its PATTERN has, 1 USED, 10 and j pieces of ORDER j. NONE: i, what.");
        RollCutter x = Calls.withBook("40x3;10x0;20x5");
        x.machine(0, 58);
        x.machine(1, 2);
        C.due("pieces of 20, 2, 20", x.row(1, 0), 2);
        C.due("used", x.row(1, 1), 42);
        C.due("pieces of a", x.row(1, 10), 0);
        C.due("pieces of b", x.row(1, 11), 0);
        C.due("pieces of c", x.row(1, 12), 2);
        Ask.far("row", -1, i -> x.row(i, 0), -1, 2, 3, 6);
        Ask.far("what", -1, what -> x.row(0, what), -1, 2, 9, 13, 15, 16);
        Ask.far("row, whatever is asked", -1, i -> x.row(i, 10), -1, 2);
        C.due("of no rows", Calls.withBook("20x0").row(0, 0), -1);
        C.due("of no orders", new RollCutter().row(0, 10), -1);
        RollCutter y = Calls.withBook("20x1;21x1;22x1;23x1;24x1;25x1");
        C.due("row(5, 15)", y.row(5, 15), 2);
        C.due("row(5, 16)", y.row(5, 16), -1);
        C.due("row(6, 15)", y.row(6, 15), -1);
    }

    private static void amount() {
        Doc.promise(10, "AMOUNT of ROW i. NONE: i, part.");
        RollCutter x = Calls.withBook("40x3;10x0;20x5");
        C.due("amount(1, 0)", x.amount(1, 0), 2);
        C.due("amount(1, 1)", x.amount(1, 1), 3);
        Ask.far("row", -1, i -> x.amount(i, 0), -1, 2, 3, 6);
        Ask.far("row", -1, i -> x.amount(i, 1), -1, 2, 3, 6);
        Ask.far("part", -1, part -> x.amount(0, part), -1, 2);
        C.due("of no rows", Calls.withBook("20x0").amount(0, 1), -1);
    }

    private static void share() {
        Doc.promise(11, "SHARE of ROW i for a WANTED ORDER. -1000000000: i, order (one that isn't WANTED, too), part.");
        RollCutter x = Calls.withBook("40x3;10x0;20x5");
        C.due("share(1, 0, 0)", x.share(1, 0, 0), -1);
        C.due("share(1, 0, 1)", x.share(1, 0, 1), 3);
        C.due("share(1, 2, 0)", x.share(1, 2, 0), 1);
        C.due("share(1, 2, 1)", x.share(1, 2, 1), 3);
        Ask.far("row", NO_SHARE, i -> x.share(i, 0, 0), -1, 2, 3, 6);
        Ask.far("order", NO_SHARE, j -> x.share(0, j, 0), -1, 1, 3, 5, 6);
        Ask.far("order", NO_SHARE, j -> x.share(0, j, 1), -1, 1, 3, 5, 6);
        Ask.far("part", NO_SHARE, part -> x.share(0, 0, part), -1, 2);
        C.due("of no rows", Calls.withBook("20x0").share(0, 0, 0), NO_SHARE);
        C.due("of no orders", new RollCutter().share(0, 0, 1), NO_SHARE);
    }

    private static void price() {
        Doc.promise(12, "PRICE. NONE: order, part. (A PRICE is never below 0 then.)");
        RollCutter x = Calls.withBook("40x3;10x0;20x5");
        C.due("price(0, 0)", x.price(0, 0), 2);
        C.due("price(0, 1)", x.price(0, 1), 3);
        C.due("price(1, 0), not wanted", x.price(1, 0), 0);
        C.due("price(1, 1), not wanted", x.price(1, 1), 1);
        Ask.far("order", -1, j -> x.price(j, 0), -1, 3, 5, 6);
        Ask.far("part", -1, part -> x.price(0, part), -1, 2);
        Ask.far("part of one not wanted", -1, part -> x.price(1, part), -1, 2);
        C.due("of no orders", new RollCutter().price(0, 0), -1);
        // below 0 on the way: -1/4, -1/3, -1/2
        String[] books = {"15x2;38x1;6x1", "19x1;6x1;32x2", "31x10;6x1;11x6", "40x3;20x3"};
        for (String book : books) {
            RollCutter y = Calls.withBook(book);
            for (int j = 0; j < y.told(0); j++) {
                C.due("price of " + j + " of " + book + " isn't below 0", y.price(j, 0) >= 0 ? 1 : 0, 1);
            }
        }
    }

    private static void bound() {
        Doc.promise(13, "BOUND. NONE.");
        RollCutter x = Calls.withBook("40x3;20x5");
        C.due("bound(0)", x.bound(0), 11);
        C.due("bound(1)", x.bound(1), 3);
        Ask.far("part", -1, x::bound, -1, 2, 3);
        Ask.far("part of nothing", -1, new RollCutter()::bound, -1, 2);
    }

    private static void least() {
        Doc.promise(14, "LEAST.");
        C.due("of nothing", new RollCutter().least(), 0);
        C.due("of 11/3", Calls.withBook("40x3;20x5").least(), 4);
        C.due("of 3", Calls.withBook("40x3;20x3").least(), 3);
        C.due("of 162/7", Calls.withBook("22x20;17x31;9x40").least(), 24);
    }

    private static void rounds() {
        Doc.promise(15, "How many PATTERNS came in.");
        C.due("of nothing", new RollCutter().rounds(), 0);
        C.due("of one order", Calls.withBook("20x7").rounds(), 0);
        C.due("of two", Calls.withBook("40x3;20x5").rounds(), 1);
        C.due("one that came in twice counts twice", Calls.withBook("17x1;24x3;14x3;21x3").rounds(), 6);
        RollCutter x = new RollCutter();
        x.machine(1, 2);
        Calls.book(x, "5x1;12x39;13x13;21x37;7x4;9x22");
        C.due("many", x.rounds(), 27);
        C.due("the last one", x.came(26, 0) >= 0 ? 1 : 0, 1);
        C.due("none behind it", x.came(27, 0), -1);
    }

    private static void came() {
        Doc.promise(16, "Of the k-th PATTERN that came in what 0 the ROW that it took, 1 how many pieces, 10 and j pieces of ORDER j. NONE: k, what.");
        RollCutter x = Calls.withBook("40x3;12x0;20x3");
        C.due("the row", x.came(0, 0), 1);
        C.due("pieces", x.came(0, 1), 2);
        C.due("of a", x.came(0, 10), 1);
        C.due("of b", x.came(0, 11), 0);
        C.due("of c", x.came(0, 12), 1);
        Ask.far("k", -1, k -> x.came(k, 0), -1, 1, 2);
        Ask.far("what", -1, what -> x.came(0, what), -1, 2, 3, 9, 13, 15, 16);
        C.due("of none that came in", Calls.withBook("20x7").came(0, 0), -1);
        C.due("of no orders", new RollCutter().came(0, 10), -1);
    }

    private static void leeway() {
        Doc.promise(17, "LEEWAY; -5: it has no bound. NONE; STATE: it isn't WANTED.");
        RollCutter x = Calls.withBook("40x3;12x0;20x5");
        C.due("leeway(0)", x.leeway(0), 2);
        C.due("leeway(1), not wanted", x.leeway(1), -3);
        C.due("leeway(2), no bound", x.leeway(2), -5);
        Ask.far("order", -1, x::leeway, -1, 3, 5, 6);
        C.due("of no orders", new RollCutter().leeway(0), -1);
        x.due(0, 5);
        C.due("no bound as the rows are then", x.leeway(0), -5);
        C.due("nothing more as the rows are then", x.leeway(2), 0);
        x.due(2, 0);
        C.due("leeway(2), not wanted any more", x.leeway(2), -3);
    }

    private static void rolls() {
        Doc.promise(18, "How many ROLLS there are DOWN (way 0), UP (1), by THE PLAN (2). NONE.");
        RollCutter x = new RollCutter();
        x.machine(2, 6);
        Calls.book(x, "22x4;15x2;5x9");
        C.due("rolls(0)", x.rolls(0), 4);
        C.due("rolls(1)", x.rolls(1), 3);
        C.due("rolls(2), UP", x.rolls(2), 3);
        x.machine(2, 12);
        C.due("rolls(2), DOWN again", x.rolls(2), Math.min(x.rolls(0), x.rolls(1)));
        Ask.far("way", -1, x::rolls, -1, 3, 4);
        // made anew each time
        for (int k = 0; k < 2; k++) {
            x.machine(2, 6);
            C.due("rolls(0) again", x.rolls(0), 4);
            C.due("rolls(1) again", x.rolls(1), 3);
            x.due(0, 40);
            x.due(1, 40 * k);
            x.due(2, 40);
            C.due("rolls(1) of many more", x.rolls(1) > 9 ? 1 : 0, 1);
            x.due(0, 4);
            x.due(1, 2);
            x.due(2, 9);
        }
        x = Calls.withBook("22x20;17x31;9x40;13x0");
        C.due("rolls(0)", x.rolls(0), 24);
        C.due("rolls(1)", x.rolls(1), 25);
        C.due("rolls(2)", x.rolls(2), 24);
        Ask.far("way of nothing", -1, new RollCutter()::rolls, -1, 3);
    }

    private static void cut() {
        Doc.promise(19, "Of CUT i of THE PLAN what 0 TIMES, 1 how many pieces, 2 USED, 3 whether it is FULL UP (1, 0), 10 and j pieces of ORDER j; how many CUTS (i -1, whatever what). NONE: i, what.");
        RollCutter x = Calls.withBook("30x3;20x6;12x9");
        int[][] due = {{1, 2, 60, 1, 2, 0, 0}, {2, 3, 60, 1, 0, 3, 0}, {1, 5, 60, 1, 0, 0, 5},
            {1, 3, 54, 1, 1, 0, 2}, {1, 2, 24, 0, 0, 0, 2}};
        int[] whats = {0, 1, 2, 3, 10, 11, 12};
        for (int i = 0; i < due.length; i++) {
            for (int k = 0; k < whats.length; k++) {
                C.due("cut(" + i + ", " + whats[k] + ")", x.cut(i, whats[k]), due[i][k]);
            }
        }
        Ask.far("cuts, whatever is asked", 5, what -> x.cut(-1, what), -1, 0, 1, 3, 4, 9, 10, 12, 13, 16);
        Ask.far("cut", -1, i -> x.cut(i, 0), -2, 5, 6);
        Ask.far("what", -1, what -> x.cut(0, what), -1, 4, 5, 9, 13, 15, 16);
        Ask.far("what of the last", -1, what -> x.cut(4, what), -1, 4, 9, 13);
        RollCutter y = new RollCutter();
        Ask.far("no cuts, whatever is asked", 0, what -> y.cut(-1, what), 0, 10);
        C.due("cut(0, 0) of no cuts", y.cut(0, 0), -1);
    }
}
