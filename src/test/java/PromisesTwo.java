/** The document's promises 20 to 39, each with the numbers on both sides of its bounds. */
final class PromisesTwo {
    private static final Check C = Doc.C;

    private PromisesTwo() {
    }

    static void all() {
        waste();
        wasting();
        peak();
        sequence();
        open();
        carry();
        moreThanFull();
        serve();
        store();
        put();
        putFull();
        feed();
        clear();
        book();
        pick();
        first();
        judge();
        spell();
        paper();
        told();
        toldUnlike();
        image();
        undo();
        behindMore();
    }

    private static void waste() {
        Doc.promise(20, "WASTE of a ROLL of THE PLAN; of all together (roll -1). NONE: any other.");
        RollCutter x = Calls.withBook("30x3;20x6;12x9");
        int[] due = {0, 0, 0, 0, 6, 36};
        for (int r = 0; r < due.length; r++) {
            C.due("waste(" + r + ")", x.waste(r), due[r]);
        }
        C.due("waste(-1)", x.waste(-1), 42);
        Ask.far("roll", -1, x::waste, -2, 6, 7);
        RollCutter y = new RollCutter();
        C.due("waste(-1) of no rolls", y.waste(-1), 0);
        Ask.far("roll of none", -1, y::waste, -2, 0, 1);
    }

    private static void wasting() {
        Doc.promise(21, "How many ROLLS of THE PLAN have a WASTE of n or more.");
        // 0 0 0 0 6 36
        RollCutter x = Calls.withBook("30x3;20x6;12x9");
        int[] n = {-1, 0, 1, 5, 6, 7, 35, 36, 37, 60, Integer.MAX_VALUE, Integer.MIN_VALUE};
        int[] due = {6, 6, 2, 2, 2, 1, 1, 1, 0, 0, 0, 6};
        for (int k = 0; k < n.length; k++) {
            C.due("wasting(" + n[k] + ")", x.wasting(n[k]), due[k]);
        }
        // 3 rolls of 20 each
        x = Calls.withBook("40x3");
        C.due("wasting(20)", x.wasting(20), 3);
        C.due("wasting(21)", x.wasting(21), 0);
        x = new RollCutter();
        C.due("of no rolls", x.wasting(0) + x.wasting(-1) + x.wasting(Integer.MIN_VALUE), 0);
    }

    private static void peak() {
        Doc.promise(22, "PEAK of THE SEQUENCE (0: nothing is WANTED).");
        C.due("of no orders", new RollCutter().peak(), 0);
        RollCutter x = Calls.withBook("15x0;31x0;41x0");
        C.due("nothing wanted", x.peak(), 0);
        x.due(1, 1);
        C.due("one wanted", x.peak(), 1);
        x.due(0, 2);
        x.due(2, 1);
        C.due("three wanted", x.peak(), 2);
        x.carry();
        C.due("nothing wanted again", x.peak(), 0);
        C.due("six in one roll", Calls.withBook("5x1;6x1;7x1;8x1;9x1;10x1").peak(), 6);
    }

    private static void sequence() {
        Doc.promise(23, "The i-th ORDER of THE SEQUENCE. NONE.");
        RollCutter x = Calls.withBook("15x2;31x1;60x0;41x1");
        C.due("sequence(0)", x.sequence(0), 1);
        C.due("sequence(1)", x.sequence(1), 0);
        C.due("sequence(2)", x.sequence(2), 3);
        Ask.far("turn", -1, x::sequence, -1, 3, 4, 6);
        Ask.far("turn of none", -1, Calls.withBook("20x0")::sequence, -1, 0, 1);
        RollCutter y = Calls.withBook("60x1;59x1;58x1;57x1;56x1;55x1");
        C.due("the last of six", y.sequence(5), 5);
        Ask.far("turn of six", -1, y::sequence, -1, 6);
    }

    private static void open() {
        Doc.promise(24, "How many are OPEN in turn i of THE SEQUENCE. NONE.");
        RollCutter x = Calls.withBook("15x2;31x1;60x0;41x1");
        C.due("open(0)", x.open(0), 2);
        C.due("open(1)", x.open(1), 2);
        C.due("open(2)", x.open(2), 1);
        Ask.far("turn", -1, x::open, -1, 3, 4, 6);
        Ask.far("turn of none", -1, Calls.withBook("20x0")::open, -1, 0, 1);
        RollCutter y = Calls.withBook("60x1;59x1;58x1;57x1;56x1;55x1");
        C.due("the last of six", y.open(5), 1);
        Ask.far("turn of six", -1, y::open, -1, 6);
    }

    private static void carry() {
        Doc.promise(25, "THE PLAN is CARRIED OUT: how many ROLLS");
        RollCutter x = Calls.withBook("20x7;50x0");
        C.due("carry()", x.carry(), 3);
        C.due("store(40)", x.store(40), 1);
        C.due("store(-1)", x.store(-1), 1);
        C.due("told(2)", x.told(2), 0);
        x.due(1, 1);
        C.due("one roll", x.carry(), 1);
        C.due("store(10), as much as KEEP", x.store(10), 1);
        RollCutter y = Calls.withBook("60x40;59x40;58x40;57x40;56x40;55x40");
        C.due("the most rolls", y.carry(), 240);
        C.due("store(-1), all below KEEP", y.store(-1), 0);
        Doc.promise(25, "STATE: nothing is DUE.");
        C.due("of no orders", new RollCutter().carry(), -3);
        C.due("nothing due", Calls.withBook("20x0;30x0").carry(), -3);
        C.due("nothing due any more", x.carry(), -3);
        C.due("store(-1)", x.store(-1), 2);
        x.due(0, 1);
        C.due("one piece due", x.carry(), 1);
        C.due("store(40)", x.store(40), 2);
    }

    private static void moreThanFull() {
        Doc.promise(25, "(OFFCUTS of a size may come to be more than 999 by this, by serve()).");
        RollCutter x = Calls.withMostOffcuts();
        C.due("store(10)", x.store(10), 999);
        x.due(0, 3);
        C.due("carry()", x.carry(), 3);
        C.due("store(10), more by carry()", x.store(10), 1002);
        C.due("store(-1)", x.store(-1), 1002);
        x = Calls.withMostOffcuts();
        x.put(60);
        x.put(60);
        x.due(0, 2);
        C.due("serve()", x.serve(), 2);
        C.due("store(10), more by serve()", x.store(10), 1001);
        C.due("put(10)", x.put(10), -4);
        C.due("store(10)", x.store(10), 1001);
    }

    private static void serve() {
        Doc.promise(26, "What is DUE is SERVED: how many pieces.");
        C.due("of no orders", new RollCutter().serve(), 0);
        RollCutter x = Calls.withBook("20x3;30x0");
        C.due("of no offcuts", x.serve(), 0);
        x.put(19);
        C.due("of none large enough", x.serve(), 0);
        x.put(20);
        x.put(60);
        C.due("least() ahead of it", x.least(), 1);
        C.due("rolls(2) ahead of it", x.rolls(2), 1);
        // 20, then 60 and the 40 that are left over, which leaves 20
        C.due("all three", x.serve(), 3);
        C.due("store(20)", x.store(20), 1);
        C.due("store(19)", x.store(19), 1);
        C.due("least() behind it", x.least(), 0);
        C.due("rolls(2) behind it", x.rolls(2), 0);
        C.due("nothing due", x.serve(), 0);
        x.due(1, 1);
        C.due("of none large enough again", x.serve(), 0);
        C.due("told(2)", x.told(2), 1);
        C.due("least()", x.least(), 1);
    }

    private static void store() {
        Doc.promise(27, "How many OFFCUTS of a size there are; how many in all (size -1). NONE: any other that isn't 1 .. 60.");
        RollCutter x = new RollCutter();
        C.due("in all", x.store(-1), 0);
        x.put(1);
        x.put(1);
        x.put(60);
        C.due("store(1)", x.store(1), 2);
        C.due("store(2)", x.store(2), 0);
        C.due("store(59)", x.store(59), 0);
        C.due("store(60)", x.store(60), 1);
        C.due("in all", x.store(-1), 3);
        Ask.far("size", -1, x::store, 0, -2, 61, 62);
        x.machine(0, 20);
        C.due("store(60), though no roll is as large", x.store(60), 1);
    }

    private static void put() {
        Doc.promise(28, "An OFFCUT (1 .. 60) comes to THE STORE, be it below KEEP: how many of its size there are.");
        RollCutter x = new RollCutter();
        C.due("put(1)", x.put(1), 1);
        C.due("put(9), below KEEP", x.put(9), 1);
        C.due("put(10)", x.put(10), 1);
        C.due("put(10)", x.put(10), 2);
        C.due("put(60)", x.put(60), 1);
        x.machine(3, 60);
        C.due("put(59), below KEEP", x.put(59), 1);
        x.machine(0, 20);
        C.due("put(60), above SIZE", x.put(60), 2);
        C.due("store(-1)", x.store(-1), 7);
    }

    private static void putFull() {
        Doc.promise(28, "BAD; FULL: 999 of that size.");
        RollCutter x = Calls.withMostOffcuts();
        Ask.far("size", -2, x::put, 0, -1, 61, 62);
        C.due("store(10)", x.store(10), 999);
        C.due("a thousandth", x.put(10), -4);
        C.due("store(10)", x.store(10), 999);
        C.due("of other sizes", x.put(9) + x.put(11), 2);
        x.order(5, 1);
        C.due("one is served", x.serve(), 1);
        C.due("store(10), of 9", x.store(10), 999);
        x.due(1, 1);
        C.due("another one is served", x.serve(), 1);
        C.due("store(10), of 10", x.store(10), 998);
        C.due("room for one", x.put(10), 999);
        C.due("and no more", x.put(10), -4);
    }

    private static void feed() {
        Doc.promise(29, "A byte (1 .. 127) comes behind THE TAPE's: how many it has. BAD; FULL.");
        RollCutter x = new RollCutter();
        C.due("feed(1)", x.feed(1), 1);
        C.due("feed(127)", x.feed(127), 2);
        C.due("feed(126)", x.feed(126), 3);
        Ask.same("feed", -2, x::feed, 0, -1, 128, 129, 255, 256, 257, 353, 65536, -127, -128,
                Integer.MIN_VALUE, Integer.MIN_VALUE + 65, Integer.MAX_VALUE);
        C.due("told(7)", x.told(7), 3);
        for (int k = 4; k <= 90; k++) {
            C.due("feed(" + k + ")", x.feed(k), k);
        }
        C.due("byte 91", x.feed('a'), -4);
        C.due("a bad one", x.feed(0), -2);
        C.due("a bad one", x.feed(128), -2);
        C.due("told(7)", x.told(7), 90);
        C.due("clear()", x.clear(), 90);
        C.due("feed('a')", x.feed('a'), 1);
    }

    private static void clear() {
        Doc.promise(30, "THE TAPE is empty then: how many bytes it had.");
        RollCutter x = new RollCutter();
        C.due("of none", x.clear(), 0);
        x.feed('9');
        C.due("of one", x.clear(), 1);
        C.due("told(7)", x.told(7), 0);
        C.due("of none again", x.clear(), 0);
        Calls.feed(x, "a".repeat(90));
        C.due("of ninety", x.clear(), 90);
        C.due("a text behind it", Calls.book(x, "20x5"), 1);
        C.due("of none behind a text", x.clear(), 0);
    }

    private static void book() {
        Doc.promise(31, "THE TAPE is a BOOK: how many ORDERS came; -100 less the FAULT.");
        RollCutter x = new RollCutter();
        C.due("of none", x.book(), -100);
        C.due("one", Calls.book(x, "20x5"), 1);
        C.due("two", Calls.book(x, "21x0;60x40"), 2);
        C.due("three", Calls.book(x, "5x1;6x1;7x1"), 3);
        C.due("no room", Calls.book(x, "8x1"), -100);
        C.due("of(0, 0)", x.of(0, 0), 20);
        C.due("of(2, 0)", x.of(2, 0), 60);
        C.due("of(2, 1)", x.of(2, 1), 40);
        C.due("of(5, 0)", x.of(5, 0), 7);
        C.due("told(1)", x.told(1), 5);
        C.due("told(2)", x.told(2), 48);
        C.due("six", Calls.book(new RollCutter(), "5x1;6x1;7x1;8x1;9x1;10x1"), 6);
        C.due("the last byte at fault", Calls.book(new RollCutter(), "20x5;21x5?"), -109);
    }

    private static void pick() {
        Doc.promise(32, "THE TAPE is a CONDITION: of how many CUTS of THE PLAN it is so; -100 less the FAULT.");
        RollCutter x = Calls.withBook("30x3;20x6;12x9");
        C.due("of none", x.pick(), -100);
        C.due("all", Calls.pick(x, "times>0"), 5);
        C.due("none", Calls.pick(x, "times>2"), 0);
        C.due("one", Calls.pick(x, "times>1"), 1);
        C.due("the last", Calls.pick(x, "full=0"), 1);
        C.due("a fault", Calls.pick(x, "full=0?"), -106);
        C.due("of no cuts", Calls.pick(new RollCutter(), "times>0"), 0);
        C.due("a fault, no cuts", Calls.pick(new RollCutter(), "times>"), -106);
        x.machine(2, 6);
        x.due(0, 1);
        C.due("of the plan as it is then", Calls.pick(x, "a>0"), 1);
        RollCutter y = new RollCutter();
        y.machine(2, 6);
        Calls.book(y, "22x4;15x2;5x9");
        // 2x2a3c;1x2b3c by UP
        C.due("of a plan that was rounded up", Calls.pick(y, "c=3"), 2);
        RollCutter z = Calls.withBook("30x3;20x6;12x9");
        for (int k = 0; k < 4; k++) {
            C.due("a long one", Calls.pick(z, "a=9|".repeat(22) + "a="), -190);
            C.due("a long one again", Calls.pick(z, "a<9&".repeat(5) + "a=2|c=5"), 2);
        }
    }

    private static void first() {
        Doc.promise(33, "THE TAPE is a CONDITION: the first CUT of THE PLAN of which it is so; -5: there is none; -100 less the FAULT.");
        RollCutter x = Calls.withBook("30x3;20x6;12x9");
        C.due("of none", x.first(), -100);
        C.due("all", Calls.first(x, "times>0"), 0);
        C.due("none", Calls.first(x, "times>2"), -5);
        C.due("one", Calls.first(x, "times>1"), 1);
        C.due("the last", Calls.first(x, "full=0"), 4);
        C.due("a fault", Calls.first(x, "full=0?"), -106);
        C.due("of no cuts", Calls.first(new RollCutter(), "times>0"), -5);
        C.due("a fault, no cuts", Calls.first(new RollCutter(), "times>"), -106);
    }

    private static void judge() {
        Doc.promise(34, "THE TAPE is a TOLD PLAN: JUDGED; -100 less the FAULT.");
        RollCutter x = Calls.withBook("30x3;20x6;12x9");
        C.due("of none", x.judge(), -100);
        C.due("a plan", Calls.judge(x, "3x1a;6x1b;9x1c"), 1018);
        C.due("no pattern", Calls.judge(x, "3x1a;6x1b;9x9c"), 2);
        C.due("fewer", Calls.judge(x, "3x1a;5x1b"), 101);
        C.due("more", Calls.judge(x, "3x1a;6x1b;99x5c"), 202);
        C.due("a fault", Calls.judge(x, "3x1a;"), -105);
        C.due("of no orders", Calls.judge(new RollCutter(), "1x1a"), -103);
        x.due(0, 0);
        x.due(1, 0);
        x.due(2, 0);
        C.due("nothing due", Calls.judge(x, "1x1a"), 200);
    }

    private static void spell() {
        Doc.promise(35, "THE PAPER becomes THE PLAN SPELLED: how many bytes.");
        RollCutter x = new RollCutter();
        C.due("of no cuts", x.spell(), 0);
        Calls.book(x, "5x40;60x11");
        C.due("3x12a;11x1b;1x4a", x.spell(), 16);
        C.due("told(8)", x.told(8), 16);
        C.due("the same again", x.spell(), 16);
        x.due(0, 0);
        C.due("11x1b", x.spell(), 5);
        C.due("told(8)", x.told(8), 5);
        x.due(1, 0);
        C.due("of no cuts again", x.spell(), 0);
        C.due("told(8)", x.told(8), 0);
        RollCutter y = new RollCutter();
        y.machine(2, 6);
        Calls.book(y, "22x4;15x2;5x9");
        C.due("a plan that was rounded up: 2x2a3c;1x2b3c", y.spell(), 13);
    }

    private static void paper() {
        Doc.promise(36, "Byte i of THE PAPER. NONE.");
        RollCutter x = Calls.withBook("20x7");
        Ask.far("byte, nothing spelled", -1, x::paper, -1, 0, 1);
        x.spell();
        String due = "2x3a;1x1a";
        for (int i = 0; i < due.length(); i++) {
            C.due("paper(" + i + ")", x.paper(i), due.charAt(i));
        }
        Ask.far("byte", -1, x::paper, -1, due.length(), due.length() + 1, 128);
    }

    private static void told() {
        Doc.promise(37, "What 0 ORDERS, 1 WANTED ones, 2 pieces DUE, 3 SIZE, 4 KERF, 5 KNIVES, 6 KEEP, 7 bytes of THE TAPE, 8 of THE PAPER,");
        RollCutter x = Calls.withBook("40x3;20x5;11x0");
        x.machine(2, 9);
        x.machine(3, 4);
        x.spell();
        Calls.feed(x, "ab");
        int[] due = {3, 2, 8, 60, 0, 9, 4, 2, 11, 3};
        for (int what = 0; what < due.length; what++) {
            C.due("told(" + what + ")", x.told(what), due[what]);
        }
        x.machine(0, 59);
        x.machine(1, 2);
        C.due("told(3)", x.told(3), 59);
        C.due("told(4)", x.told(4), 2);
        RollCutter y = Calls.withBook("20x40;21x40;22x40;23x40;24x40;25x40");
        C.due("the most orders", y.told(0), 6);
        C.due("the most wanted", y.told(1), 6);
        C.due("the most pieces", y.told(2), 240);
    }

    private static void toldUnlike() {
        Doc.promise(37, "9 unlike PATTERNS among those that came in and those with which the ROWS began. NONE.");
        C.due("of nothing", new RollCutter().told(9), 0);
        C.due("none came in", Calls.withBook("30x5;20x5;10x5").told(9), 3);
        C.due("one came in", Calls.withBook("40x3;20x5").told(9), 3);
        C.due("nine came in", Calls.withBook("13x3;7x1;9x9").told(9), 9);
        // 1a2d came in twice, 3a with which row 0 began came in
        C.due("two of six came twice", Calls.withBook("17x1;24x3;14x3;21x3").told(9), 8);
        C.due("one came in twice", Calls.withBook("16x1;11x10;19x31").told(9), 6);
        C.due("one with which a row began", Calls.withBook("16x6;7x10;6x3").told(9), 5);
        Ask.far("what", -1, new RollCutter()::told, -1, 10, 11);
        Ask.far("what", -1, Calls.withBook("40x3;20x5")::told, -1, 10, 11);
    }

    private static void image() {
        Doc.promise(38, "THE IMAGE is taken: how many ORDERS there are.");
        RollCutter x = new RollCutter();
        C.due("of none", x.image(), 0);
        Calls.book(x, "20x5;21x5;22x5;23x5;24x5;25x5");
        C.due("undo() to none", x.undo(), 0);
        C.due("told(0)", x.told(0), 0);
        Calls.book(x, "20x5;21x5;22x5;23x5;24x5;25x5");
        C.due("of six", x.image(), 6);
        x.drop();
        C.due("of five, anew", x.image(), 5);
        x.drop();
        x.drop();
        C.due("undo() to the later one", x.undo(), 5);
        C.due("of(4, 0)", x.of(4, 0), 24);
        C.due("of(5, 0)", x.of(5, 0), -1);
        x.due(0, 7);
        x.put(60);
        C.due("of(0, 1)", x.of(0, 1), 7);
        C.due("undo() to what it was, and not to what it is", x.undo(), 5);
        C.due("of(0, 1)", x.of(0, 1), 5);
        C.due("store(60)", x.store(60), 0);
    }

    private static void undo() {
        Doc.promise(39, "All is as THE IMAGE: how many ORDERS there are. STATE: there is none.");
        RollCutter x = new RollCutter();
        C.due("of a new one", x.undo(), -3);
        x.order(30, 5);
        C.due("no image yet", x.undo(), -3);
        C.due("told(0)", x.told(0), 1);
        x.image();
        C.due("nothing changed", x.undo(), 1);
        x.drop();
        C.due("an order more", x.undo(), 1);
        C.due("of(0, 0)", x.of(0, 0), 30);
        x.order(20, 6);
        x.order(21, 6);
        C.due("rolls(2)", x.rolls(2), 8);
        C.due("patterns(0)", x.patterns(0), 10);
        C.due("two orders fewer, the image stays", x.undo(), 1);
        C.due("rolls(2)", x.rolls(2), 3);
        C.due("patterns(0)", x.patterns(0), 2);
        x.carry();
        C.due("undo() behind carry()", x.undo(), 1);
        C.due("told(2)", x.told(2), 5);
        C.due("store(-1)", x.store(-1), 0);
        x.machine(0, 31);
        C.due("rolls(2) of 31", x.rolls(2), 5);
        C.due("undo() behind machine()", x.undo(), 1);
        C.due("rolls(2) of 60", x.rolls(2), 3);
    }

    /** An object that held more orders, rows, cuts, turns answers as one that never did. */
    private static void behindMore() {
        C.part("DOC Promise 39, behind more than there is now");
        String[] few = {"", "20x0", "20x7", "40x3;20x5", "15x2;31x1;41x1", "30x3;20x6;12x9", "60x1;59x1"};
        String[] many = {"5x1;6x1;7x1;8x1;9x1;10x1", "22x20;17x31;9x40;13x7", "60x40;59x40;58x40;57x40;56x40;55x40",
            "11x9;5x30;12x24;15x12;13x33;6x35", "18x2;36x4;23x2;41x1;12x1;14x2"};
        for (String book : few) {
            String alone = Whole.of(Calls.withBook(book));
            for (String more : many) {
                RollCutter x = Calls.withBook(book);
                x.image();
                while (x.told(0) > 0) {
                    x.drop();
                }
                Calls.book(x, more);
                asked(x);
                C.due("undo() behind " + more, x.undo() >= 0 ? 1 : 0, 1);
                Whole.same(book + " behind " + more, Whole.of(x), alone);
            }
        }
        dropped();
    }

    private static void asked(RollCutter x) {
        x.rows();
        x.told(9);
        x.peak();
        x.waste(-1);
        x.patterns(0);
        x.patterns(1);
    }

    /** Wide orders that are wanted, and gone: nothing of them counts. */
    private static void dropped() {
        C.part("DOC Promise 5, what is gone");
        RollCutter x = Calls.withBook("15x2;31x1;41x1;60x40");
        asked(x);
        x.drop();
        C.due("told(0)", x.told(0), 3);
        C.due("told(1)", x.told(1), 3);
        C.due("told(2)", x.told(2), 4);
        C.due("rows()", x.rows(), 3);
        C.due("rolls(2)", x.rolls(2), 2);
        C.due("sequence(2)", x.sequence(2), 2);
        C.due("sequence(3)", x.sequence(3), -1);
        C.due("peak()", x.peak(), 2);
        x.put(60);
        x.put(60);
        C.due("serve()", x.serve(), 4);
        C.due("machine(0, 41)", x.machine(0, 41), 60);
        // a narrow one that is gone would go into what is full up
        x = Calls.withBook("31x1;28x0;5x1");
        C.due("not full up", x.cut(0, 3), 0);
        x.drop();
        x.drop();
        C.due("full up when they are gone", x.cut(0, 3), 1);
        C.due("patterns(1)", x.patterns(1), 1);
        C.due("a letter that is gone", Calls.judge(x, "1x1b"), -103);
        C.due("a plan without it", Calls.judge(x, "1x1a"), 1001);
    }
}
