/** Part 3 of the document's terms: plans, stacks, the store. */
final class PartThree {
    private static final Check C = Doc.C;

    private PartThree() {
    }

    static void all() {
        cutsAsTheyCameFirst();
        down();
        fill();
        fillSoManyTimes();
        up();
        trim();
        thePlan();
        rollsByCuts();
        weighedByRolls();
        stacks();
        open();
        peak();
        sequence();
        sequenceOfTheWanted();
        storeOfSizes();
        leftOver();
        leftOverByServing();
        carriedOut();
        served();
        servedFromTheSmallest();
        servedAgainAndAgain();
    }

    private static RollCutter made(int size, int kerf, int knives, String book) {
        RollCutter x = new RollCutter();
        x.machine(0, size);
        x.machine(1, kerf);
        x.machine(2, knives);
        Calls.book(x, book);
        return x;
    }

    private static void plan(RollCutter x, String due) {
        String got = Calls.spelled(x);
        C.due("the plan is " + due + ", it was " + got, got.equals(due) ? 1 : 0, 1);
    }

    private static void rolls(RollCutter x, int down, int up, int plan) {
        C.due("rolls(0)", x.rolls(0), down);
        C.due("rolls(1)", x.rolls(1), up);
        C.due("rolls(2)", x.rolls(2), plan);
    }

    private static void wastes(RollCutter x, int... due) {
        int sum = 0;
        for (int r = 0; r < due.length; r++) {
            C.due("waste(" + r + ")", x.waste(r), due[r]);
            sum += due[r];
        }
        C.due("waste(-1)", x.waste(-1), sum);
        C.due("waste(" + due.length + ")", x.waste(due.length), -1);
    }

    /** Orders in turn, and how many are open then. */
    private static void turns(RollCutter x, String sequence, String open) {
        int peak = 0;
        for (int i = 0; i < sequence.length(); i++) {
            C.due("sequence(" + i + ")", x.sequence(i), sequence.charAt(i) - 'a');
            C.due("open(" + i + ")", x.open(i), open.charAt(i) - '0');
            peak = Math.max(peak, open.charAt(i) - '0');
        }
        C.due("sequence(" + sequence.length() + ")", x.sequence(sequence.length()), -1);
        C.due("open(" + sequence.length() + ")", x.open(sequence.length()), -1);
        C.due("peak()", x.peak(), peak);
    }

    private static void cutsAsTheyCameFirst() {
        Doc.says("3", "A PLAN: CUTS, which are unlike PATTERNS, each some TIMES; they stand as they came first.");
        // rows 2a 7/4, 1a2b 3/2; of 2a and 1b that are due still 2a again, then 1b
        RollCutter x = made(60, 0, 3, "26x5;10x3");
        C.due("cuts", x.cut(-1, 0), 3);
        plan(x, "2x2a;1x1a2b;1x1b");
        // rows 1a 41/6, 1a3b1c 1/3, 1a2c 17/6; then 1a1b2c, then 1a, which is the first cut
        x = Calls.withBook("31x10;6x1;11x6");
        C.due("cuts", x.cut(-1, 0), 3);
        plan(x, "7x1a;2x1a2c;1x1a1b2c");
        // 1b1e, 1 out of which b is left out, is a cut ahead of 1d1e; the row 1e comes to it
        x = made(60, 0, 7, "5x20;23x24;7x3;11x1;31x29");
        C.due("cuts", x.cut(-1, 0), 5);
        plan(x, "20x1a1b1e;4x1b1e;3x1e;1x3c1e;1x1d1e");
        C.due("no cuts", Calls.withBook("20x0").cut(-1, 0), 0);
    }

    private static void down() {
        Doc.says("3", "DOWN: each ROW's PATTERN, by ROWS, as many TIMES as its AMOUNT, rounded down (none: it is left out).");
        plan(Calls.withBook("5x12"), "1x12a");
        // 11/12: none of 12a
        plan(Calls.withBook("5x11"), "1x11a");
        plan(Calls.withBook("5x13"), "1x12a;1x1a");
        plan(Calls.withBook("5x36"), "3x12a");
        plan(Calls.withBook("5x35"), "2x12a;1x11a");
        // rows 1a 0 and 1a1b 3
        plan(Calls.withBook("40x3;20x3"), "3x1a1b");
        // rows 1a1b 3 and 3b 2/3
        plan(Calls.withBook("40x3;20x5"), "3x1a1b;1x2b");
        // rows 3a 1/3, 3b5c 8/13, 1b6c 80/13
        plan(Calls.withBook("20x1;5x8;9x40"), "6x1b6c;1x1a2b3c;1x1c");
        plan(Calls.withBook("60x40;59x40"), "40x1a;40x1b");
        rolls(Calls.withBook("20x0"), 0, 0, 0);
    }

    private static void fill() {
        Doc.says("3", "Then, as long as something is DUE that isn't cut: of PATTERNS without more pieces of any ORDER than are DUE still, that with the greatest USED (of several the EARLIEST),");
        // 1a is due still, and no more, though 2a go into a roll
        plan(Calls.withBook("30x1"), "1x1a");
        plan(Calls.withBook("30x2"), "1x2a");
        // rows 2a 3/2, 3b 2, 5c 9/5: 1a and 4c are due, 1a2c are 54
        plan(Calls.withBook("30x3;20x6;12x9"), "1x2a;2x3b;1x5c;1x1a2c;1x2c");
        // rows 2a, 2b, 2c, 2d 1/2 each: 1b1d are 45
        plan(made(60, 0, 2, "10x1;20x1;15x1;25x1"), "1x1b1d;1x1a1c");
        // 1a1d and 1b1c are 50 both
        plan(made(50, 0, 2, "20x1;22x1;28x1;30x1"), "1x1a1d;1x1b1c");
        // 1c1f and 1d1e are 59 both
        plan(made(59, 0, 2, "20x0;21x0;22x1;25x1;34x1;37x1"), "1x1c1f;1x1d1e");
        // with the kerf 2a1b are 50 and 4a are 46
        plan(made(58, 2, 12, "10x9;26x3"), "1x5a;1x2b;1x2a1b;1x2a");
        // 4a1b are 49 and 8, 2a2b 50 and 6; 4b are 48 and 3, 1a2b 47 and 2
        plan(made(60, 2, 12, "8x4;17x2"), "1x4a1b;1x1b");
        plan(made(60, 1, 12, "23x1;12x4"), "1x4b;1x1a");
        // five knives: 4a1c are 58, 1b3c 50; the latest would be two rolls of 1b and 3c
        plan(made(60, 0, 5, "13x10;32x4;6x4"), "3x2a1b;1x4a1c;1x1b3c");
        // an order that isn't wanted is not filled in
        plan(Calls.withBook("5x0;40x1"), "1x1b");
    }

    private static void fillSoManyTimes() {
        Doc.says("3", "as many TIMES as it is such a one.");
        // rows 3a 8/3, 3b1c 8/3, 2c 11/3: of 2a, 2b, 3c that are due 1a1b1c goes twice
        plan(made(40, 2, 12, "12x8;6x8;16x10"), "2x3a;2x3b1c;3x2c;2x1a1b1c");
        // rows 1a1b1c 11/5, 1b1d 9/5, 2c1d 2/5, 1a1d 9/5
        plan(made(60, 2, 3, "20x4;23x4;13x3;30x4"), "3x1a1b1c;1x1b1d;1x1a1d;2x1d");
    }

    private static void up() {
        Doc.says("3", "UP: ROLLS of each ROW's PATTERN, by ROWS, as many as its AMOUNT, rounded up;");
        rolls(Calls.withBook("5x1"), 1, 1, 1);
        rolls(Calls.withBook("5x12"), 1, 1, 1);
        rolls(Calls.withBook("5x13"), 2, 2, 2);
        rolls(Calls.withBook("5x36"), 3, 3, 3);
        // rows 1a 0 and 1a1b 3
        rolls(Calls.withBook("40x3;20x3"), 3, 3, 3);
        // rows 1/12 to 1/6, but 1a1b7c at 0: five rolls
        rolls(Calls.withBook("5x1;6x1;7x1;8x1;9x1;10x1"), 1, 5, 1);
        // rows 151/21, 31/3, 118/21: 8 and 11 and 6
        rolls(Calls.withBook("22x20;17x31;9x40;13x0"), 24, 25, 24);
        rolls(Calls.withBook("60x40;59x40;58x40;57x40;56x40;55x40"), 240, 240, 240);
    }

    private static void trim() {
        Doc.says("3", "then, from the last ROLL to the first: of each ORDER are left out as many pieces as are too many, or as it has; a ROLL with no pieces is none.");
        // 2a3c twice, 3b3c, 1a1b4c: 1, 2 and 4 are too many: none stays of the last, then 1b is left out
        RollCutter x = made(60, 0, 6, "22x4;15x2;5x9");
        rolls(x, 4, 3, 3);
        plan(x, "2x2a3c;1x2b3c");
        // 3a3b, 5b1c, 3a1c twice: 3a, 1b and 1c are too many
        x = made(60, 1, 6, "12x6;6x7;21x2");
        rolls(x, 4, 3, 3);
        plan(x, "1x3a3b;1x4b1c;1x3a1c");
        // 1a6b twice, 3b5c six times, 1a1b3c
        x = made(60, 0, 8, "28x2;5x29;9x30");
        rolls(x, 9, 8, 8);
        plan(x, "2x1a6b;5x3b5c;1x2b5c");
        // 3a1c1d, 3b2c, 4c1d, 2d 15 times: the first roll is trimmed, too
        x = made(60, 0, 5, "8x2;16x3;6x6;29x30");
        rolls(x, 18, 17, 17);
        plan(x, "1x2a1c1d;1x3b2c;1x3c1d;14x2d");
        // rows 41/11, 0, 10/11, 3/11: 1a3c1d four times, 3b2c, and 1a1b1d, of which nothing stays
        x = made(60, 0, 5, "24x4;16x3;5x13;20x4");
        rolls(x, 6, 5, 5);
        plan(x, "4x1a3c1d;1x3b1c");
    }

    private static void thePlan() {
        Doc.says("3", "THE PLAN: DOWN, or UP, if that has fewer ROLLS.");
        RollCutter x = made(60, 0, 6, "22x4;15x2;5x9");
        C.due("cut(1, 11), two b by UP", x.cut(1, 11), 2);
        // as many: UP were 2a, 1a, 3b, 3b, 5c, 4c
        x = Calls.withBook("30x3;20x6;12x9");
        rolls(x, 6, 6, 6);
        plan(x, "1x2a;2x3b;1x5c;1x1a2c;1x2c");
        // as many: UP were 1a1b, 2b, 1b
        x = Calls.withBook("19x1;22x4");
        rolls(x, 3, 3, 3);
        plan(x, "2x2b;1x1a");
        // UP has more
        x = Calls.withBook("31x10;6x1;11x6");
        rolls(x, 10, 11, 10);
        plan(x, "7x1a;2x1a2c;1x1a1b2c");
    }

    private static void rollsByCuts() {
        Doc.says("3", "Its ROLLS stand by CUTS.");
        // 7x1a;2x1a2c;1x1a1b2c, the seventh 1a came last
        wastes(Calls.withBook("31x10;6x1;11x6"), 29, 29, 29, 29, 29, 29, 29, 7, 7, 1);
        // 2x2a3c;1x2b3c
        wastes(made(60, 0, 6, "22x4;15x2;5x9"), 1, 1, 15);
        // 20x1a1b1e;4x1b1e;3x1e;1x3c1e;1x1d1e: 1e stands where it came first
        RollCutter x = made(60, 0, 7, "5x20;23x24;7x3;11x1;31x29");
        int[] due = {1, 1, 6, 6, 29, 29, 29, 8, 18};
        int[] roll = {0, 19, 20, 23, 24, 25, 26, 27, 28};
        for (int k = 0; k < roll.length; k++) {
            C.due("waste(" + roll[k] + ")", x.waste(roll[k]), due[k]);
        }
        C.due("waste(29)", x.waste(29), -1);
        wastes(Calls.withBook("20x0"));
    }

    private static void weighedByRolls() {
        C.part("DOC 3, the most rolls");
        RollCutter x = Calls.withBook("60x40;59x40;58x40;57x40;56x40;55x40");
        C.due("waste(0)", x.waste(0), 0);
        C.due("waste(239)", x.waste(239), 5);
        C.due("waste(240)", x.waste(240), -1);
        C.due("waste(-1)", x.waste(-1), 40 * (1 + 2 + 3 + 4 + 5));
        C.due("carry()", x.carry(), 240);
    }

    private static void stacks() {
        Doc.says("3", "STACKS: by a SEQUENCE of the WANTED ORDERS: for each of them in turn those CUTS of THE PLAN are cut that have pieces of it (and weren't yet);");
        turns(Calls.withBook("20x0"), "", "");
        turns(Calls.withBook("20x7"), "a", "1");
        // 3x1a1b;1x2b: with a there is b, too
        turns(Calls.withBook("40x3;20x5"), "ab", "21");
        // 1x1a1b;1x1a1c
        turns(Calls.withBook("15x2;31x1;41x1"), "bac", "221");
        // each alone
        turns(Calls.withBook("60x1;59x1;58x1;57x1;56x1;55x1"), "abcdef", "111111");
    }

    private static void open() {
        Doc.says("3", "OPEN then are the ORDERS of which there are pieces in what was cut so far, but those that were in turn ahead.");
        // all six in one roll
        turns(Calls.withBook("5x1;6x1;7x1;8x1;9x1;10x1"), "abcdef", "654321");
        // 1x1b1e;1x1a1c1d: the order in turn is open, too
        turns(Calls.withBook("30x1;18x1;19x1;10x1;34x1"), "acbde", "32321");
        // 1x1a1b1c;1x1d
        turns(Calls.withBook("10x1;22x1;24x1;29x1"), "abcd", "3211");
    }

    private static void peak() {
        Doc.says("3", "PEAK of a SEQUENCE: the most that are ever OPEN.");
        C.due("of none", new RollCutter().peak(), 0);
        C.due("of one", Calls.withBook("20x1").peak(), 1);
        // 1x2a;1x1b1c;1x1c2d;1x1c1e;1x1a1c: the most is not at first, and stays long
        turns(Calls.withBook("28x3;33x1;21x4;19x2;37x1"), "abdce", "22221");
        // 1x2c;1x1d1f;1x1b2e;1x1a
        turns(Calls.withBook("29x1;14x1;30x2;21x1;19x2;33x1"), "abcedf", "122121");
        C.due("of six in one roll", Calls.withBook("5x1;6x1;7x1;8x1;9x1;10x1").peak(), 6);
    }

    private static void sequence() {
        Doc.says("3", "THE SEQUENCE is that with the least PEAK, of several the one with the least ORDER first, then second, and so on.");
        // 1x1a1c;1x1b: b first had one open, but a first has the same peak
        turns(Calls.withBook("10x1;19x1;44x1"), "abc", "221");
        // 1x1a1b;1x1a1c: with a first three were open
        turns(Calls.withBook("15x2;31x1;41x1"), "bac", "221");
        // 1x1a1c;1x1b1d: with b second three were open
        turns(Calls.withBook("14x1;40x1;36x1;15x1"), "acbd", "2121");
        // 1x1a1d;1x1c1e;1x1b: with c third three were open
        turns(Calls.withBook("15x1;13x1;18x1;45x1;40x1"), "abdce", "22121");
        // 1x2c;1x1d1f;1x1b2e;1x1a: with d fourth three were open
        turns(Calls.withBook("29x1;14x1;30x2;21x1;19x2;33x1"), "abcedf", "122121");
        // 1x1a1d;1x1a1b;2x1b1c;1x1b1f;1x1e1f: c first and a second were three, too
        turns(Calls.withBook("18x2;36x4;23x2;41x1;12x1;20x2"), "dacbef", "222221");
        // 1x2b;1x1a1d;1x1a1e;1x1c1f
        turns(Calls.withBook("42x2;27x2;28x1;13x1;17x1;14x1"), "bcfdae", "121221");
    }

    private static void sequenceOfTheWanted() {
        C.part("DOC 3, orders that aren't wanted have no turn");
        turns(Calls.withBook("60x0;14x1;40x1;59x0;36x1;15x1"), "becf", "2121");
        RollCutter x = Calls.withBook("15x2;31x1;41x1");
        x.due(1, 0);
        // 1x1a1c;1x1a
        turns(x, "ac", "21");
    }

    private static void storeOfSizes() {
        Doc.says("3", "THE STORE holds OFFCUTS (none at first), of sizes 1 .. 60.");
        RollCutter x = new RollCutter();
        C.due("in all", x.store(-1), 0);
        for (int size = 1; size <= 60; size++) {
            C.due("of size " + size, x.store(size), 0);
        }
        Ask.far("store", -1, x::store, 0, -2, 61, 62);
        Ask.far("put", -2, x::put, 0, -1, 61, 62);
        C.due("put(1)", x.put(1), 1);
        C.due("put(60)", x.put(60), 1);
        C.due("store(1)", x.store(1), 1);
        C.due("store(2)", x.store(2), 0);
        C.due("store(59)", x.store(59), 0);
        C.due("store(60)", x.store(60), 1);
        C.due("in all", x.store(-1), 2);
    }

    /** A waste of so much with that kerf and keep: what comes to the store of size 1 to 60. */
    private static void left(int waste, int kerf, int keep, int due) {
        RollCutter x = made(60, kerf, 1, (60 - waste) + "x2");
        x.machine(3, keep);
        C.due("waste of " + waste, x.waste(0), waste);
        C.due("carry()", x.carry(), 2);
        C.due("offcuts of " + due + ", " + waste + " left, a kerf of " + kerf + ", keep " + keep,
                due > 0 ? x.store(due) : 2, 2);
        C.due("offcuts in all, " + waste + " left", x.store(-1), due > 0 ? 2 : 0);
    }

    private static void leftOver() {
        Doc.says("3", "What is left over of something: nothing, if it isn't above KERF; else what is left less KERF is an OFFCUT that comes to THE STORE, if it is KEEP (1 .. 60; 10 at first) or more; else nothing.");
        C.due("KEEP at first", new RollCutter().told(6), 10);
        left(0, 0, 1, 0);
        left(1, 0, 1, 1);
        left(0, 1, 1, 0);
        left(1, 1, 1, 0);
        left(2, 1, 1, 1);
        left(1, 2, 1, 0);
        left(2, 2, 1, 0);
        left(3, 2, 1, 1);
        left(9, 0, 10, 0);
        left(10, 0, 10, 10);
        left(11, 0, 10, 11);
        left(11, 2, 10, 0);
        left(12, 2, 10, 10);
        left(55, 0, 55, 55);
        left(55, 0, 56, 0);
        left(55, 1, 54, 54);
        left(55, 1, 55, 0);
        left(55, 0, 60, 0);
        RollCutter x = Calls.withBook("50x1;51x1");
        x.carry();
        C.due("10 at first: 10 and 9 are left", x.store(10) * 10 + x.store(-1), 11);
        Ask.far("machine(3, ..)", -2, v -> x.machine(3, v), 0, -1, 61, 62);
        C.due("machine(3, 1)", x.machine(3, 1), 10);
        C.due("machine(3, 60)", x.machine(3, 60), 1);
        C.due("told(6)", x.told(6), 60);
    }

    private static void served(int offcut, int kerf, int keep, int due) {
        RollCutter x = made(60, kerf, 1, "20x1");
        x.machine(3, keep);
        x.put(offcut);
        C.due("serve() of " + offcut, x.serve(), 1);
        C.due("offcuts of " + due + ", of " + offcut + ", a kerf of " + kerf + ", keep " + keep,
                due > 0 ? x.store(due) : 1, 1);
        C.due("offcuts in all, of " + offcut, x.store(-1), due > 0 ? 1 : 0);
    }

    private static void leftOverByServing() {
        C.part("DOC 3, what is left over by serving");
        served(20, 0, 1, 0);
        served(21, 0, 1, 1);
        served(21, 1, 1, 0);
        served(22, 1, 1, 1);
        served(22, 2, 1, 0);
        served(23, 2, 1, 1);
        served(29, 0, 10, 0);
        served(30, 0, 10, 10);
        served(31, 2, 10, 0);
        served(32, 2, 10, 10);
        served(60, 0, 40, 40);
        served(60, 0, 41, 0);
        served(60, 2, 38, 38);
        served(60, 2, 39, 0);
        served(60, 0, 60, 0);
    }

    private static void carriedOut() {
        Doc.says("3", "CARRIED OUT: THE PLAN is cut; WASTE of each ROLL is left over; nothing is DUE.");
        RollCutter x = Calls.withBook("31x10;6x1;11x6;50x0");
        x.put(29);
        x.machine(3, 7);
        C.due("carry()", x.carry(), 10);
        C.due("store(29), seven more", x.store(29), 8);
        C.due("store(7)", x.store(7), 2);
        C.due("store(1), below KEEP", x.store(1), 0);
        C.due("store(-1)", x.store(-1), 10);
        C.due("told(2)", x.told(2), 0);
        C.due("told(1)", x.told(1), 0);
        C.due("told(0)", x.told(0), 4);
        C.due("carry(), nothing due", x.carry(), -3);
        C.due("store(-1) as it was", x.store(-1), 10);
        // rounded up: 2x2a3c;1x2b3c
        x = made(60, 0, 6, "22x4;15x2;5x9");
        x.machine(3, 1);
        C.due("carry()", x.carry(), 3);
        C.due("store(1)", x.store(1), 2);
        C.due("store(15)", x.store(15), 1);
        C.due("store(-1)", x.store(-1), 3);
    }

    private static void served() {
        Doc.says("3", "SERVED: by WIDTHS, the widest ORDER first: each piece that is DUE is cut out of the smallest OFFCUT that isn't below its WIDTH, if there is one; what that is larger is left over; it isn't DUE any more.");
        RollCutter x = Calls.withBook("20x2");
        C.due("an empty store", x.serve(), 0);
        x.put(19);
        C.due("below its width", x.serve(), 0);
        C.due("store(19)", x.store(19), 1);
        C.due("told(2)", x.told(2), 2);
        x.put(20);
        C.due("just its width", x.serve(), 1);
        C.due("store(20)", x.store(20), 0);
        C.due("told(2)", x.told(2), 1);
        x.put(60);
        C.due("the largest", x.serve(), 1);
        C.due("store(40)", x.store(40), 1);
        C.due("told(2)", x.told(2), 0);
        C.due("nothing due", x.serve(), 0);
        C.due("store(-1)", x.store(-1), 2);
        // the widest first, whatever its number
        x = Calls.withBook("15x1;31x1;20x1");
        x.put(32);
        C.due("one offcut", x.serve(), 1);
        C.due("of(1, 1)", x.of(1, 1), 0);
        C.due("of(0, 1)", x.of(0, 1), 1);
        C.due("of(2, 1)", x.of(2, 1), 1);
        x = Calls.withBook("31x1;20x1;15x1");
        x.put(30);
        x.put(16);
        C.due("the widest finds none, the others do", x.serve(), 2);
        C.due("of(0, 1)", x.of(0, 1), 1);
        C.due("store(10), of 30", x.store(10), 1);
        C.due("store(-1)", x.store(-1), 1);
    }

    private static void servedFromTheSmallest() {
        C.part("DOC 3, served out of the smallest");
        RollCutter x = Calls.withBook("20x1");
        x.put(60);
        x.put(35);
        x.put(21);
        x.put(22);
        C.due("serve()", x.serve(), 1);
        C.due("store(21)", x.store(21), 0);
        C.due("store(22)", x.store(22), 1);
        C.due("store(-1)", x.store(-1), 3);
        x = Calls.withBook("60x1;5x1");
        x.put(60);
        x.put(60);
        x.put(5);
        C.due("serve()", x.serve(), 2);
        C.due("store(60)", x.store(60), 1);
        C.due("store(5)", x.store(5), 0);
    }

    /** What is left over serves the next piece, of the same order or of a narrower one. */
    private static void servedAgainAndAgain() {
        C.part("DOC 3, served piece by piece");
        RollCutter x = Calls.withBook("12x6;21x1");
        x.put(60);
        // 21 of 60, then 12 of 39, 27, 15: 3 are left
        C.due("serve()", x.serve(), 4);
        C.due("of(0, 1)", x.of(0, 1), 3);
        C.due("store(-1)", x.store(-1), 0);
        // 35 less 12 is 23: smaller than 24, so the next one is cut out of it
        x = Calls.withBook("12x2");
        x.put(35);
        x.put(36);
        C.due("serve()", x.serve(), 2);
        C.due("store(36)", x.store(36), 1);
        C.due("store(11)", x.store(11), 1);
        // with a kerf of 2: 60, 48 less 2 is 46, 34 less 2 is 32, 20 less 2 is 18, 6 less 2 is 4
        x = made(60, 2, 12, "12x9");
        x.machine(3, 4);
        x.put(60);
        C.due("serve()", x.serve(), 4);
        C.due("store(4)", x.store(4), 1);
        C.due("of(0, 1)", x.of(0, 1), 5);
        // below KEEP nothing serves again
        x = Calls.withBook("5x40");
        x.put(14);
        x.put(15);
        C.due("9 isn't kept, 10 is and leaves 5", x.serve(), 3);
        x = Calls.withBook("60x40");
        for (int k = 0; k < 41; k++) {
            x.put(60);
        }
        C.due("forty", x.serve(), 40);
        C.due("store(60)", x.store(60), 1);
    }
}
