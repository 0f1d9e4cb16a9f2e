/** Part 1 of the document's terms: orders, rolls, patterns. */
final class PartOne {
    private static final Check C = Doc.C;

    private PartOne() {
    }

    static void all() {
        sixOrders();
        widths();
        dues();
        size();
        kerf();
        kerfBetweenPieces();
        knives();
        knivesHoldPieces();
        noWidthAboveSize();
        onePieceOrMore();
        used();
        waste();
        earliest();
        fullUp();
        fullUpByKnivesAndKerf();
    }

    private static void sixOrders() {
        Doc.says("1", "ORDERS have numbers 0 .., as they come (6 at most; told by letters a .. f, too):");
        RollCutter x = new RollCutter();
        C.due("of(0, 0) of none", x.of(0, 0), -1);
        for (int j = 0; j < 6; j++) {
            C.due("order " + j, x.order(30 - j, 0), j);
            C.due("of its number", x.of(j, 0), 30 - j);
            C.due("of the number behind it", x.of(j + 1, 0), -1);
        }
        C.due("a seventh", x.order(40, 0), -4);
        C.due("told(0)", x.told(0), 6);
        C.due("of(6, 0)", x.of(6, 0), -1);
        C.due("a seventh out of a book", Calls.book(x, "40x0"), -100);
        C.due("f is a letter", Calls.judge(x, "1x1f"), 205);
        C.due("a is a letter", Calls.judge(x, "1x1a"), 200);
        C.due("g is none", Calls.judge(x, "1x1g"), -103);
        C.due("f is a word", Calls.pick(x, "f=0"), 0);
        C.due("g is none", Calls.pick(x, "g=0"), -100);
        x.due(5, 1);
        C.due("f is spelled", Calls.spelled(x).equals("1x1f") ? 1 : 0, 1);
        C.due("drop()", x.drop(), 5);
        C.due("f is a letter no more", Calls.judge(x, "1x1f"), -103);
        C.due("f is a word still", Calls.pick(x, "f=0"), 0);
        C.due("room for one", x.order(40, 0), 5);
        C.due("of(5, 0)", x.of(5, 0), 40);
        C.due("no room for one more", x.order(41, 0), -4);
    }

    private static void widths() {
        Doc.says("1", "WIDTH (5 .. 60, no two alike)");
        RollCutter x = new RollCutter();
        Ask.far("order(.., 1)", -2, w -> x.order(w, 1), 4, 3, 0, -1, -5, -60, 61, 62);
        C.due("told(0)", x.told(0), 0);
        C.due("the least", x.order(5, 1), 0);
        C.due("the most", x.order(60, 1), 1);
        C.due("the least again", x.order(5, 1), -2);
        C.due("the most again", x.order(60, 2), -2);
        C.due("one above the least", x.order(6, 1), 2);
        C.due("one below the most", x.order(59, 1), 3);
        C.due("one that the last order has", x.order(59, 1), -2);
        C.due("one that is due no more", x.due(3, 0) == 1 ? x.order(59, 1) : 0, -2);
        C.due("drop()", x.drop(), 3);
        C.due("one that went", x.order(59, 7), 3);
        C.due("of(3, 1)", x.of(3, 1), 7);
        C.due("told(0)", x.told(0), 4);
    }

    private static void dues() {
        Doc.says("1", "DUE (0 .. 40 pieces).");
        RollCutter x = new RollCutter();
        Ask.far("order(20, ..)", -2, d -> x.order(20, d), -1, 41, 42);
        C.due("told(0)", x.told(0), 0);
        C.due("the least", x.order(20, 0), 0);
        C.due("the most", x.order(21, 40), 1);
        Ask.far("due(0, ..)", -2, d -> x.due(0, d), -1, 41, 42);
        C.due("due(0, 40)", x.due(0, 40), 0);
        C.due("due(1, 0)", x.due(1, 0), 40);
        C.due("due(0, 39)", x.due(0, 39), 40);
        C.due("due(1, 1)", x.due(1, 1), 0);
        C.due("told(2)", x.told(2), 40);
    }

    private static void size() {
        Doc.says("1", "A ROLL has SIZE (20 .. 60; 60 at first);");
        RollCutter x = new RollCutter();
        C.due("at first", x.told(3), 60);
        Ask.far("machine(0, ..)", -2, v -> x.machine(0, v), 19, 18, 0, -1, -20, 61, 62);
        C.due("told(3)", x.told(3), 60);
        C.due("the least", x.machine(0, 20), 60);
        C.due("told(3)", x.told(3), 20);
        C.due("one above it", x.machine(0, 21), 20);
        C.due("one below the most", x.machine(0, 59), 21);
        C.due("the most", x.machine(0, 60), 59);
        C.due("told(3)", x.told(3), 60);
        x.order(20, 3);
        C.due("pieces of 20 in 60", x.row(0, 0), 3);
        x.machine(0, 59);
        C.due("pieces of 20 in 59", x.row(0, 0), 2);
        x.machine(0, 20);
        C.due("pieces of 20 in 20", x.row(0, 0), 1);
    }

    private static void kerf() {
        Doc.says("1", "KERF (0 .. 2; 0 at first)");
        RollCutter x = new RollCutter();
        C.due("at first", x.told(4), 0);
        Ask.far("machine(1, ..)", -2, v -> x.machine(1, v), -1, -2, 3, 4);
        C.due("told(4)", x.told(4), 0);
        C.due("the most", x.machine(1, 2), 0);
        C.due("told(4)", x.told(4), 2);
        C.due("one below it", x.machine(1, 1), 2);
        C.due("the least", x.machine(1, 0), 1);
        C.due("told(4)", x.told(4), 0);
    }

    /** Not ahead of the first piece and not behind the last one. */
    private static void kerfBetweenPieces() {
        Doc.says("1", "is lost between two pieces;");
        RollCutter x = new RollCutter();
        x.machine(1, 2);
        x.order(60, 1);
        C.due("one piece as wide as the roll", x.row(0, 0), 1);
        C.due("used", x.row(0, 1), 60);
        C.due("waste", x.waste(0), 0);
        x.order(29, 2);
        C.due("29, 2 and 29 just go", x.row(1, 0), 2);
        C.due("used", x.row(1, 1), 60);
        x = Calls.withBook("30x2");
        x.machine(1, 2);
        C.due("30, 2 and 30 don't", x.row(0, 0), 1);
        C.due("used", x.row(0, 1), 30);
        x.machine(1, 1);
        C.due("30, 1 and 30 don't", x.row(0, 0), 1);
        x.machine(1, 0);
        C.due("30 and 30 do", x.row(0, 0), 2);
        RollCutter y = new RollCutter();
        y.machine(0, 58);
        y.machine(1, 2);
        y.order(18, 3);
        C.due("three of 18 with two kerfs are 58", y.row(0, 0), 3);
        y.machine(0, 57);
        C.due("and don't go into 57", y.row(0, 0), 2);
    }

    private static void knives() {
        Doc.says("1", "KNIVES (1 .. 12; 12 at first):");
        RollCutter x = new RollCutter();
        C.due("at first", x.told(5), 12);
        Ask.far("machine(2, ..)", -2, v -> x.machine(2, v), 0, -1, -12, 13, 14);
        C.due("told(5)", x.told(5), 12);
        C.due("the least", x.machine(2, 1), 12);
        C.due("told(5)", x.told(5), 1);
        C.due("one above it", x.machine(2, 2), 1);
        C.due("one below the most", x.machine(2, 11), 2);
        C.due("the most", x.machine(2, 12), 11);
        C.due("told(5)", x.told(5), 12);
    }

    private static void knivesHoldPieces() {
        Doc.says("1", "more pieces than that can't be cut out of a ROLL.");
        RollCutter x = Calls.withBook("5x12;6x0");
        C.due("twelve of 5", x.row(0, 0), 12);
        C.due("twelve of 5 are a pattern", Calls.judge(x, "1x12a"), 1001);
        x.machine(2, 11);
        C.due("eleven of 5", x.row(0, 0), 11);
        C.due("twelve are none then", Calls.judge(x, "1x12a"), 0);
        C.due("eleven are one", Calls.judge(x, "1x11a"), 100);
        x.machine(2, 1);
        C.due("one of 5", x.row(0, 0), 1);
        C.due("patterns of one piece", x.patterns(0), 2);
        C.due("rolls", x.rolls(2), 12);
        x.machine(2, 3);
        C.due("the pieces of all orders are counted: three", Calls.judge(x, "1x2a1b"), 100);
        C.due("the pieces of all orders are counted: four", Calls.judge(x, "1x2a2b"), 0);
        C.due("patterns of three pieces at most", x.patterns(0), 2 + 3 + 4);
    }

    private static void noWidthAboveSize() {
        Doc.says("1", "No WIDTH is above SIZE.");
        RollCutter x = new RollCutter();
        x.machine(0, 40);
        C.due("order(41, 1)", x.order(41, 1), -2);
        C.due("order(60, 1)", x.order(60, 1), -2);
        C.due("book 41x1", Calls.book(x, "41x1"), -100);
        C.due("order(40, 0), as wide as the roll", x.order(40, 0), 0);
        C.due("machine(0, 39), though none is due", x.machine(0, 39), -2);
        C.due("told(3)", x.told(3), 40);
        x.order(39, 1);
        C.due("machine(0, 39), the widest counts", x.machine(0, 39), -2);
        C.due("machine(0, 40)", x.machine(0, 40), 40);
        C.due("machine(0, 41)", x.machine(0, 41), 40);
        C.due("order(41, 1) now", x.order(41, 1), 2);
        x.drop();
        x.drop();
        x.drop();
        C.due("machine(0, 60), with no orders", x.machine(0, 60), 41);
        x.order(60, 0);
        C.due("machine(0, 59), as wide as can be", x.machine(0, 59), -2);
        x.drop();
        C.due("machine(0, 20), when that went", x.machine(0, 20), 60);
        C.due("book 20x1;21x1", Calls.book(x, "20x1;21x1"), -105);
        C.due("book 20x1", Calls.book(x, "20x1"), 1);
    }

    private static void onePieceOrMore() {
        Doc.says("1", "A PATTERN: so many pieces of each ORDER (one or more in all, KNIVES at most);");
        RollCutter x = new RollCutter();
        C.due("of no orders", x.patterns(0), 0);
        x.order(60, 0);
        C.due("one piece, and not none", x.patterns(0), 1);
        x.order(31, 0);
        C.due("one piece of each", x.patterns(0), 2);
        x.order(12, 0);
        // a; b with 0 .. 2 c; 1 .. 5 c
        C.due("of three", x.patterns(0), 1 + 3 + 5);
        x.machine(2, 2);
        C.due("two pieces at most", x.patterns(0), 1 + 2 + 2);
        x.machine(2, 1);
        C.due("one piece at most", x.patterns(0), 3);
    }

    /** With a KERF of 1: 20, 19 and 19 are 60, 20, 20 and 19 are 61. */
    private static void used() {
        Doc.says("1", "USED: WIDTHS of all of them together, plus KERF for each but one; it isn't above SIZE.");
        RollCutter x = Calls.withBook("20x1;19x2");
        x.machine(1, 1);
        C.due("just as much as SIZE", Calls.judge(x, "1x1a2b"), 1001);
        C.due("one above", Calls.judge(x, "1x2a1b"), 0);
        C.due("used by the plan's cut", x.cut(0, 2), 60);
        x.machine(0, 59);
        C.due("above a smaller SIZE", Calls.judge(x, "1x1a2b"), 0);
        C.due("59 of 59", Calls.judge(x, "1x3b"), 100);
        x.machine(0, 58);
        C.due("59 of 58", Calls.judge(x, "1x3b"), 0);
        x.due(0, 0);
        C.due("used by two of 19", x.row(0, 1), 39);
        x.machine(1, 2);
        C.due("used by two of 19, a kerf of 2", x.row(0, 1), 40);
        x.machine(1, 0);
        C.due("used by three of 19, no kerf", x.row(0, 1), 57);
        // 3b; 1a2b; 2a: so 3 and more are 2 and 1 and 0 of a
        C.due("patterns that aren't above 58", x.patterns(0), 3 + 3 + 1);
    }

    private static void waste() {
        Doc.says("1", "WASTE: SIZE less USED.");
        RollCutter x = Calls.withBook("5x1");
        C.due("of one piece of 5", x.waste(0), 55);
        x.due(0, 12);
        C.due("of twelve pieces", x.waste(0), 0);
        x.machine(0, 20);
        C.due("of four pieces in 20", x.waste(0), 0);
        x.machine(1, 1);
        C.due("of three pieces and two kerfs in 20", x.waste(0), 3);
        x.machine(1, 2);
        C.due("of three pieces and two kerfs of 2 in 20", x.waste(0), 1);
        C.due("of all four rolls", x.waste(-1), 4);
    }

    private static void earliest() {
        Doc.says("1", "Of several PATTERNS the EARLIEST has most pieces of ORDER 0, of such most of ORDER 1, and so on.");
        // rows 12a, 4b; 4a3b and 1a4b are both at 13/12
        RollCutter x = Calls.withBook("5x2;13x1");
        C.due("came in", x.came(0, 10) * 100 + x.came(0, 11), 403);
        // what is due still is filled with 24 and 3 of 12, or with 5 of 12: 60 both
        spelled("24x1;12x5", "1x1a3b;1x2b");
        spelled("6x7;12x4", "1x6a2b;1x1a2b");
        spelled("10x5;20x2", "1x4a1b;1x1a1b");
        // 3 of 15 and 3 of 5, or 2 of 15 and 6 of 5
        spelled("28x1;15x3;5x6", "1x3b3c;1x1a3c");
        spelled("7x2;9x4;12x6", "1x4b2c;1x1a4c;1x1a");
        // 4 of 10 and one of 20, or 2 of each
        spelled("13x2;23x6;10x6;20x5", "2x1a2b;1x2b1c;1x3d;1x4c1d;1x1c1d");
        spelled("14x4;24x12;18x2;9x9", "1x3a1c;5x2b1d;1x1b1c2d;1x1a1b2d");
    }

    private static void spelled(String book, String plan) {
        String got = Calls.spelled(Calls.withBook(book));
        C.due("the plan of " + book + " is " + plan + ", it was " + got, got.equals(plan) ? 1 : 0, 1);
    }

    private static void fullUp() {
        Doc.says("1", "It is FULL UP, if no piece more of any ORDER makes a PATTERN of it.");
        RollCutter x = Calls.withBook("31x1;30x0");
        C.due("30 more are 61", x.cut(0, 3), 1);
        x.order(29, 0);
        C.due("29 more are 60, though none is due", x.cut(0, 3), 0);
        C.due("a, b, 2b, c, 2c, ac, bc: but a, b, c", x.patterns(0) * 10 + x.patterns(1), 74);
        x.machine(0, 59);
        C.due("29 more are 60 of 59", x.cut(0, 3), 1);
        x.drop();
        x.drop();
        x.machine(0, 60);
        C.due("its own order alone: 31 more are 62", x.cut(0, 3), 1);
        x.machine(0, 31);
        C.due("nothing is left at all", x.cut(0, 3), 1);
        x = Calls.withBook("20x7");
        C.due("three of 20", x.cut(0, 3), 1);
        C.due("one of 20, one more goes", x.cut(1, 3), 0);
        x.due(0, 2);
        C.due("two of 20, one more goes", x.cut(0, 3), 0);
        x.order(5, 0);
        // 3a; 2a4b, 1a8b, 12b: the others aren't
        C.due("full up of two orders", x.patterns(1), 4);
    }

    private static void fullUpByKnivesAndKerf() {
        C.part("DOC 1, FULL UP by knives and kerf");
        RollCutter x = Calls.withBook("10x2");
        C.due("two of 10", x.cut(0, 3), 0);
        x.machine(2, 3);
        C.due("a third one", x.cut(0, 3), 0);
        x.machine(2, 2);
        C.due("no knife more", x.cut(0, 3), 1);
        C.due("full up with two knives", x.patterns(1), 1);
        x.machine(2, 1);
        C.due("full up with one knife", x.patterns(1), 1);
        x = Calls.withBook("40x1;18x0");
        x.machine(1, 2);
        C.due("40, 2 and 18 are 60", x.cut(0, 3), 0);
        x.machine(0, 59);
        C.due("and don't go into 59", x.cut(0, 3), 1);
        x.machine(1, 1);
        C.due("40, 1 and 18 are 59", x.cut(0, 3), 0);
    }
}
