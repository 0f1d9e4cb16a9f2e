/** Promises 1 to 7 and 37 to 39: orders, the machine, patterns, what is told, the image. */
public final class OrdersTest {
    private static final Check C = new Check();

    public static void main(String[] args) {
        constants();
        newObject();
        order();
        orderBad();
        due();
        of();
        drop();
        machine();
        machineBad();
        patterns();
        patternsFullUp();
        told();
        image();
        undoTwice();
        C.end();
    }

    private static void constants() {
        C.part("constants");
        C.due("NONE", RollCutter.NONE, -1);
        C.due("BAD", RollCutter.BAD, -2);
        C.due("STATE", RollCutter.STATE, -3);
        C.due("FULL", RollCutter.FULL, -4);
    }

    private static void newObject() {
        C.part("promise 1");
        RollCutter x = new RollCutter();
        int[] due = {0, 0, 0, 60, 0, 12, 10, 0, 0, 0};
        for (int what = 0; what < due.length; what++) {
            C.due("told(" + what + ")", x.told(what), due[what]);
        }
        C.due("store(-1)", x.store(-1), 0);
        C.due("paper(0)", x.paper(0), -1);
        C.due("undo()", x.undo(), -3);
        C.due("drop()", x.drop(), -3);
        x.order(30, 5);
        C.due("told(0) of another one", new RollCutter().told(0), 0);
    }

    private static void order() {
        C.part("promise 2");
        RollCutter x = new RollCutter();
        C.due("order(5, 0)", x.order(5, 0), 0);
        C.due("order(60, 40)", x.order(60, 40), 1);
        C.due("order(6, 1)", x.order(6, 1), 2);
        C.due("order(7, 2)", x.order(7, 2), 3);
        C.due("order(8, 3)", x.order(8, 3), 4);
        C.due("order(9, 4)", x.order(9, 4), 5);
        C.due("order(10, 4), a seventh", x.order(10, 4), -4);
        C.due("order(9, 4), had and full", x.order(9, 4), -2);
        C.due("order(61, 4), bad and full", x.order(61, 4), -2);
        C.due("order(10, 41), bad and full", x.order(10, 41), -2);
        C.due("told(0)", x.told(0), 6);
        C.due("told(2)", x.told(2), 50);
        C.due("of(5, 0)", x.of(5, 0), 9);
        C.due("of(5, 1)", x.of(5, 1), 4);
    }

    private static void orderBad() {
        C.part("promise 2, bad");
        RollCutter x = new RollCutter();
        C.due("order(4, 1)", x.order(4, 1), -2);
        C.due("order(61, 1)", x.order(61, 1), -2);
        C.due("order(-20, 1)", x.order(-20, 1), -2);
        C.due("order(min, 1)", x.order(Integer.MIN_VALUE, 1), -2);
        C.due("order(max, 1)", x.order(Integer.MAX_VALUE, 1), -2);
        C.due("order(20, -1)", x.order(20, -1), -2);
        C.due("order(20, 41)", x.order(20, 41), -2);
        C.due("order(20, max)", x.order(20, Integer.MAX_VALUE), -2);
        C.due("told(0)", x.told(0), 0);
        x.machine(0, 40);
        C.due("order(41, 1) above the size", x.order(41, 1), -2);
        C.due("order(40, 1)", x.order(40, 1), 0);
        C.due("order(40, 2) again", x.order(40, 2), -2);
        C.due("of(0, 1) is as it was", x.of(0, 1), 1);
        x.drop();
        C.due("order(40, 2) when it is gone", x.order(40, 2), 0);
    }

    private static void due() {
        C.part("promise 3");
        RollCutter x = new RollCutter();
        x.order(30, 5);
        x.order(20, 0);
        C.due("due(0, 7)", x.due(0, 7), 5);
        C.due("due(0, 40)", x.due(0, 40), 7);
        C.due("due(0, 0)", x.due(0, 0), 40);
        C.due("due(0, 41)", x.due(0, 41), -2);
        C.due("due(0, -1)", x.due(0, -1), -2);
        C.due("of(0, 1)", x.of(0, 1), 0);
        C.due("due(1, 3)", x.due(1, 3), 0);
        C.due("due(2, 3)", x.due(2, 3), -1);
        C.due("due(-1, 3)", x.due(-1, 3), -1);
        C.due("due(2, 41), none first", x.due(2, 41), -1);
        C.due("due(max, 3)", x.due(Integer.MAX_VALUE, 3), -1);
        C.due("rows()", x.rows(), 1);
        C.due("told(2)", x.told(2), 3);
        x.due(0, 4);
        C.due("rows() then", x.rows(), 2);
        C.due("least() then", x.least(), 3);
    }

    private static void of() {
        C.part("promise 4");
        RollCutter x = new RollCutter();
        x.order(31, 5);
        x.order(17, 6);
        C.due("of(0, 0)", x.of(0, 0), 31);
        C.due("of(0, 1)", x.of(0, 1), 5);
        C.due("of(1, 0)", x.of(1, 0), 17);
        C.due("of(1, 1)", x.of(1, 1), 6);
        C.due("of(2, 0)", x.of(2, 0), -1);
        C.due("of(-1, 0)", x.of(-1, 0), -1);
        C.due("of(0, 2)", x.of(0, 2), -1);
        C.due("of(0, -1)", x.of(0, -1), -1);
        x.drop();
        C.due("of(1, 0) when it is gone", x.of(1, 0), -1);
    }

    private static void drop() {
        C.part("promise 5");
        RollCutter x = new RollCutter();
        C.due("drop()", x.drop(), -3);
        x.order(31, 5);
        x.order(17, 6);
        x.order(12, 7);
        C.due("least()", x.least(), 6);
        C.due("drop()", x.drop(), 2);
        C.due("told(2)", x.told(2), 11);
        C.due("rows()", x.rows(), 2);
        C.due("order(13, 1)", x.order(13, 1), 2);
        C.due("drop()", x.drop(), 2);
        C.due("drop()", x.drop(), 1);
        C.due("drop()", x.drop(), 0);
        C.due("drop()", x.drop(), -3);
        C.due("least() of nothing", x.least(), 0);
    }

    private static void machine() {
        C.part("promise 6");
        RollCutter x = new RollCutter();
        C.due("machine(0, 20)", x.machine(0, 20), 60);
        C.due("machine(0, 60)", x.machine(0, 60), 20);
        C.due("machine(0, 50)", x.machine(0, 50), 60);
        C.due("machine(1, 2)", x.machine(1, 2), 0);
        C.due("machine(1, 0)", x.machine(1, 0), 2);
        C.due("machine(1, 1)", x.machine(1, 1), 0);
        C.due("machine(2, 1)", x.machine(2, 1), 12);
        C.due("machine(2, 12)", x.machine(2, 12), 1);
        C.due("machine(2, 7)", x.machine(2, 7), 12);
        C.due("machine(3, 1)", x.machine(3, 1), 10);
        C.due("machine(3, 60)", x.machine(3, 60), 1);
        C.due("machine(3, 8)", x.machine(3, 8), 60);
        C.due("told(3)", x.told(3), 50);
        C.due("told(4)", x.told(4), 1);
        C.due("told(5)", x.told(5), 7);
        C.due("told(6)", x.told(6), 8);
        // 50 holds 5 pieces of 9 with a kerf of 1 each but one: 49
        x.order(9, 40);
        C.due("row(0, 0)", x.row(0, 0), 5);
        C.due("row(0, 1)", x.row(0, 1), 49);
        x.machine(0, 48);
        C.due("row(0, 0) of 48", x.row(0, 0), 4);
        x.machine(1, 0);
        C.due("row(0, 0) without kerf", x.row(0, 0), 5);
        x.machine(2, 3);
        C.due("row(0, 0) with three knives", x.row(0, 0), 3);
        C.due("least() with three knives", x.least(), 14);
    }

    private static void machineBad() {
        C.part("promise 6, bad");
        RollCutter x = new RollCutter();
        C.due("machine(4, 1)", x.machine(4, 1), -1);
        C.due("machine(-1, 1)", x.machine(-1, 1), -1);
        C.due("machine(4, -1), none first", x.machine(4, -1), -1);
        C.due("machine(0, 19)", x.machine(0, 19), -2);
        C.due("machine(0, 61)", x.machine(0, 61), -2);
        C.due("machine(1, -1)", x.machine(1, -1), -2);
        C.due("machine(1, 3)", x.machine(1, 3), -2);
        C.due("machine(2, 0)", x.machine(2, 0), -2);
        C.due("machine(2, 13)", x.machine(2, 13), -2);
        C.due("machine(3, 0)", x.machine(3, 0), -2);
        C.due("machine(3, 61)", x.machine(3, 61), -2);
        x.order(45, 0);
        x.order(30, 0);
        C.due("machine(0, 44), below a width", x.machine(0, 44), -2);
        C.due("machine(0, 45)", x.machine(0, 45), 60);
        C.due("told(3)", x.told(3), 45);
        x = new RollCutter();
        x.order(60, 0);
        C.due("machine(0, 59), below a width of 60", x.machine(0, 59), -2);
    }

    private static void patterns() {
        C.part("promise 7");
        RollCutter x = new RollCutter();
        C.due("patterns(0)", x.patterns(0), 0);
        C.due("patterns(1)", x.patterns(1), 0);
        C.due("patterns(-1)", x.patterns(-1), -1);
        C.due("patterns(2)", x.patterns(2), -1);
        // 1 to 3 of 20
        x.order(20, 0);
        C.due("patterns(0)", x.patterns(0), 3);
        C.due("patterns(1)", x.patterns(1), 1);
        // of 20 and 25: b alone 1 or 2; a with none, 1 with one, none with 2; 2a; 2a with none more; 3a
        x.order(25, 4);
        C.due("patterns(0) of two", x.patterns(0), 6);
        C.due("patterns(1) of two", x.patterns(1), 3);
        x.machine(1, 1);
        // 3a are 62 now, 2a1b never went, 1a1b are 46
        C.due("patterns(0) with kerf", x.patterns(0), 5);
        C.due("patterns(1) with kerf", x.patterns(1), 3);
        x.machine(2, 1);
        C.due("patterns(0) with one knife", x.patterns(0), 2);
        C.due("patterns(1) with one knife", x.patterns(1), 2);
    }

    private static void patternsFullUp() {
        C.part("promise 7, many");
        RollCutter x = new RollCutter();
        x.order(5, 1);
        C.due("patterns(0) of 5", x.patterns(0), 12);
        C.due("patterns(1) of 5", x.patterns(1), 1);
        x.machine(1, 1);
        // 10 pieces with 9 kerfs are 59
        C.due("patterns(0) of 5 with kerf", x.patterns(0), 10);
        x.machine(0, 59);
        C.due("patterns(0) of 59", x.patterns(0), 10);
        x.machine(0, 58);
        C.due("patterns(0) of 58", x.patterns(0), 9);
        x.machine(1, 0);
        x.machine(0, 60);
        x.machine(2, 4);
        // the knives end it: all with four pieces
        C.due("patterns(0) with four knives", x.patterns(0), 4);
        C.due("patterns(1) with four knives", x.patterns(1), 1);
        x.order(6, 0);
        C.due("patterns(0) of two, four knives", x.patterns(0), 14);
        C.due("patterns(1) of two, four knives", x.patterns(1), 5);
        x.drop();
        C.due("patterns(0) when it is gone", x.patterns(0), 4);
    }

    private static void told() {
        C.part("promise 37");
        RollCutter x = new RollCutter();
        x.order(40, 3);
        x.order(20, 5);
        x.order(11, 0);
        x.machine(0, 60);
        x.machine(1, 0);
        x.machine(2, 9);
        x.machine(3, 4);
        x.feed(65);
        x.feed(66);
        x.spell();
        int[] due = {3, 2, 8, 60, 0, 9, 4, 2, 11, 3};
        for (int what = 0; what < due.length; what++) {
            C.due("told(" + what + ")", x.told(what), due[what]);
        }
        C.due("told(-1)", x.told(-1), -1);
        C.due("told(10)", x.told(10), -1);
        x.due(1, 1);
        C.due("told(1) when one piece is due", x.told(1), 2);
        x.due(0, 0);
        C.due("told(9) when one is not wanted", x.told(9), 1);
        C.due("told(8) stays", x.told(8), 11);
        toldUnlike();
    }

    private static void toldUnlike() {
        C.part("promise 37, one pattern comes in twice");
        RollCutter x = Calls.withBook("16x1;11x10;19x31");
        C.due("rows()", x.rows(), 3);
        C.due("rounds()", x.rounds(), 4);
        C.due("told(9)", x.told(9), 6);
        C.part("promise 37, one comes in with which a row began");
        x = Calls.withBook("16x6;7x10;6x3");
        C.due("rows()", x.rows(), 3);
        C.due("rounds()", x.rounds(), 3);
        C.due("told(9)", x.told(9), 5);
    }

    private static void image() {
        C.part("promises 38 and 39");
        RollCutter x = new RollCutter();
        C.due("undo()", x.undo(), -3);
        C.due("image() of nothing", x.image(), 0);
        x.order(40, 3);
        x.order(20, 5);
        x.machine(0, 59);
        x.machine(1, 1);
        x.machine(2, 9);
        x.machine(3, 4);
        x.put(7);
        C.due("least()", x.least(), 6);
        C.due("image()", x.image(), 2);
        x.due(0, 9);
        x.order(13, 8);
        x.machine(0, 58);
        x.machine(1, 2);
        x.machine(2, 2);
        x.machine(3, 5);
        x.put(7);
        x.put(60);
        x.put(1);
        x.feed(65);
        x.spell();
        int spelled = x.told(8);
        C.due("undo()", x.undo(), 2);
        int[] due = {2, 2, 8, 59, 1, 9, 4, 1, spelled};
        for (int what = 0; what < due.length; what++) {
            C.due("told(" + what + ")", x.told(what), due[what]);
        }
        C.due("of(0, 0)", x.of(0, 0), 40);
        C.due("of(0, 1)", x.of(0, 1), 3);
        C.due("of(1, 1)", x.of(1, 1), 5);
        C.due("store(7)", x.store(7), 1);
        C.due("store(60)", x.store(60), 0);
        C.due("store(-1)", x.store(-1), 1);
        C.due("least()", x.least(), 6);
        C.due("patterns(0)", x.patterns(0), 3);
        C.due("paper(0) stays", x.paper(0) > 0 ? 1 : 0, 1);
    }

    private static void undoTwice() {
        C.part("promise 39, again");
        RollCutter x = new RollCutter();
        x.order(30, 5);
        x.image();
        x.drop();
        C.due("undo()", x.undo(), 1);
        x.due(0, 6);
        x.order(20, 6);
        C.due("undo() again", x.undo(), 1);
        C.due("of(0, 1)", x.of(0, 1), 5);
        x.order(21, 7);
        C.due("image() of two", x.image(), 2);
        x.drop();
        x.drop();
        C.due("undo() to the later one", x.undo(), 2);
        C.due("of(1, 0)", x.of(1, 0), 21);
        x.drop();
        x.drop();
        x.order(44, 8);
        x.order(45, 9);
        x.order(46, 1);
        C.due("undo() from other orders", x.undo(), 2);
        C.due("of(0, 0)", x.of(0, 0), 30);
        C.due("of(1, 0)", x.of(1, 0), 21);
        C.due("of(1, 1)", x.of(1, 1), 7);
        C.due("of(2, 0)", x.of(2, 0), -1);
        // what comes behind an image is not the image's
        x.put(33);
        x.due(0, 1);
        C.due("undo() once more", x.undo(), 2);
        C.due("of(0, 1)", x.of(0, 1), 5);
        C.due("store(33)", x.store(33), 0);
    }
}
