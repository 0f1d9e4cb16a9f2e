/** Promises 18 to 24: rolls, cuts, waste, the sequence of the stacks. */
public final class PlanTest {
    private static final Check C = new Check();

    public static void main(String[] args) {
        nothing();
        oneOrder();
        filled();
        upIsLess();
        upIsAsMany();
        sameCutAgain();
        fillTakesTheEarliest();
        fillWithKerf();
        wrongNumbers();
        fullUpByAnyOrder();
        mostRolls();
        afterChanges();
        sequences();
        sequenceWithOneNotWanted();
        C.end();
    }

    private static void plan(RollCutter x, String due) {
        String got = Calls.spelled(x);
        if (!got.equals(due)) {
            System.out.println("the plan is " + got);
        }
        C.due("the plan " + due, got.equals(due) ? 1 : 0, 1);
    }

    private static void rolls(RollCutter x, int down, int up, int plan) {
        C.due("rolls(0)", x.rolls(0), down);
        C.due("rolls(1)", x.rolls(1), up);
        C.due("rolls(2)", x.rolls(2), plan);
    }

    private static void wastes(RollCutter x, int... due) {
        int sum = 0;
        for (int r = 0; r < due.length; r++) {
            C.due("waste(" + r + ")", x.waste(r), due[r]);
            sum += due[r];
        }
        C.due("waste(-1)", x.waste(-1), sum);
        C.due("waste(" + due.length + ")", x.waste(due.length), -1);
    }

    private static void nothing() {
        C.part("promises 18 to 24, nothing wanted");
        RollCutter x = new RollCutter();
        x.order(20, 0);
        rolls(x, 0, 0, 0);
        C.due("cut(-1, 5)", x.cut(-1, 5), 0);
        C.due("cut(0, 0)", x.cut(0, 0), -1);
        wastes(x);
        C.due("wasting(0)", x.wasting(0), 0);
        C.due("wasting(-1)", x.wasting(-1), 0);
        C.due("peak()", x.peak(), 0);
        C.due("sequence(0)", x.sequence(0), -1);
        C.due("open(0)", x.open(0), -1);
    }

    /** 7/3 of 3a: 2 rolls and 1a; or 3 rolls, two pieces left out of the last. */
    private static void oneOrder() {
        C.part("promises 18 to 21, one order");
        RollCutter x = Calls.withBook("20x7");
        rolls(x, 3, 3, 3);
        plan(x, "2x3a;1x1a");
        C.due("cut(-1, 0)", x.cut(-1, 0), 2);
        C.due("cut(0, 0)", x.cut(0, 0), 2);
        C.due("cut(0, 1)", x.cut(0, 1), 3);
        C.due("cut(0, 2)", x.cut(0, 2), 60);
        C.due("cut(0, 3)", x.cut(0, 3), 1);
        C.due("cut(0, 10)", x.cut(0, 10), 3);
        C.due("cut(1, 0)", x.cut(1, 0), 1);
        C.due("cut(1, 1)", x.cut(1, 1), 1);
        C.due("cut(1, 2)", x.cut(1, 2), 20);
        C.due("cut(1, 3)", x.cut(1, 3), 0);
        wastes(x, 0, 0, 40);
        C.due("wasting(0)", x.wasting(0), 3);
        C.due("wasting(1)", x.wasting(1), 1);
        C.due("wasting(40)", x.wasting(40), 1);
        C.due("wasting(41)", x.wasting(41), 0);
        C.due("wasting(-7)", x.wasting(-7), 3);
        C.due("wasting(min)", x.wasting(Integer.MIN_VALUE), 3);
        C.due("wasting(max)", x.wasting(Integer.MAX_VALUE), 0);
        x.machine(1, 2);
        // two pieces a roll with the kerf: 42
        C.due("cut(0, 2) with kerf", x.cut(0, 2), 42);
        wastes(x, 18, 18, 18, 40);
        C.due("cut(1, 3) with kerf: 20 and 2 and 20 go", x.cut(1, 3), 0);
        x.machine(0, 41);
        C.due("cut(0, 3) of 41", x.cut(0, 3), 1);
        C.due("cut(-1, 0) of 41", x.cut(-1, 0), 1);
        x.machine(1, 0);
        x.machine(2, 1);
        C.due("cut(0, 3), the knives say so", x.cut(0, 3), 1);
    }

    /**
     * Rows 1a1b 3 times and 3b 2/3 times: the latter is left out of DOWN, and the two pieces of b
     * that are due still are filled in. UP has a roll of 3b, of which one piece is left out.
     */
    private static void filled() {
        C.part("promises 18 to 21, filled");
        RollCutter x = Calls.withBook("40x3;20x5");
        rolls(x, 4, 4, 4);
        plan(x, "3x1a1b;1x2b");
        wastes(x, 0, 0, 0, 20);
        x = Calls.withBook("30x3;20x6;12x9");
        // rows 2a 3/2, 3b 2, 5c 9/5: then 1a and 4c are due, the greatest used is 1a2c
        plan(x, "1x2a;2x3b;1x5c;1x1a2c;1x2c");
        wastes(x, 0, 0, 0, 0, 6, 36);
        C.due("cut(3, 3)", x.cut(3, 3), 1);
        C.due("cut(4, 3)", x.cut(4, 3), 0);
        x = Calls.withBook("22x20;17x31;9x40;13x0");
        plan(x, "7x2a1c;10x3b1c;5x1a4c;1x1a1b2c;1x1c");
        rolls(x, 24, 25, 24);
    }

    /**
     * Rows 3a1c1d 2/3, 3b2c 1, 4c1d 5/6, 2d 57/4: UP 1, 1, 1 and 15 rolls, of which 1 a, 1 c and
     * 2 d are too many; the d make the last roll none, the c leaves 3c1d, the a 2a1c1d.
     */
    private static void upIsLess() {
        C.part("promises 18 to 21, rounding up has fewer");
        RollCutter x = new RollCutter();
        x.machine(2, 5);
        Calls.book(x, "8x2;16x3;6x6;29x30");
        rolls(x, 18, 17, 17);
        plan(x, "1x2a1c1d;1x3b2c;1x3c1d;14x2d");
        wastes(x, 9, 0, 13, 2, 2, 2, 2, 2, 2, 2, 2, 2, 2, 2, 2, 2, 2);
        C.due("wasting(2)", x.wasting(2), 16);
        C.due("wasting(3)", x.wasting(3), 2);
        C.due("wasting(10)", x.wasting(10), 1);
        C.due("cut(-1, -1)", x.cut(-1, -1), 4);
        C.due("cut(0, 3)", x.cut(0, 3), 0);
        C.due("cut(1, 3)", x.cut(1, 3), 1);
        C.due("cut(2, 3)", x.cut(2, 3), 0);
        C.due("peak()", x.peak(), 3);
        x = new RollCutter();
        x.machine(2, 7);
        x.machine(0, 59);
        Calls.book(x, "6x34;8x3;25x4;20x3");
        rolls(x, 8, 7, 7);
        plan(x, "3x6a1d;1x3a2b1c;1x3a1b1c;2x5a1c");
        wastes(x, 3, 3, 3, 0, 8, 4, 4);
        C.due("carry()", x.carry(), 7);
    }

    /**
     * Rows 5a 14/5 and 2a2b 7/2: DOWN 2x5a, 3x2a2b and of the 5a and 1b that are due still 5a once
     * more, then 1b; UP 3x5a and 4x2a2b, of the last of which 1b stays. As many ROLLS: DOWN it is.
     */
    private static void upIsAsMany() {
        C.part("promises 18 and 19, as many rolls both ways");
        RollCutter x = Calls.withBook("12x21;18x7");
        rolls(x, 7, 7, 7);
        plan(x, "3x5a;3x2a2b;1x1b");
        // rows 2a 3/2, 3b 2, 5c 9/5: UP were 2a, 1a, 3b, 3b, 5c, 4c
        x = Calls.withBook("30x3;20x6;12x9");
        rolls(x, 6, 6, 6);
        plan(x, "1x2a;2x3b;1x5c;1x1a2c;1x2c");
        x = Calls.withBook("30x4;20x4;10x4");
        rolls(x, 4, 5, 4);
        plan(x, "2x2a;1x3b;1x1b4c");
    }

    /**
     * Rows 2a 7/4 and 1a2b 3/2: 2a and 1a2b once each, 2a and 1b are due still; the greatest used
     * is 2a with 52: it is the first cut once more.
     */
    private static void sameCutAgain() {
        C.part("promise 19, a cut that was there");
        RollCutter x = new RollCutter();
        x.machine(2, 3);
        Calls.book(x, "26x5;10x3");
        plan(x, "2x2a;1x1a2b;1x1b");
        wastes(x, 8, 8, 14, 50);
        C.due("cut(-1, 0)", x.cut(-1, 0), 3);
    }

    /** Two knives: so that what is filled in is two pieces at most. */
    private static void fillTakesTheEarliest() {
        C.part("promise 19, the earliest of those with the greatest used");
        // rows 2a 1/2, 3b 1/3, 6c 1/6, then 1a1b1c comes in
        plan(Calls.withBook("30x1;20x1;10x1"), "1x1a1b1c");
        // rows 2a, 2b, 2c, 2d at 1/2 each, and no pattern above 1: all is filled in
        RollCutter x = new RollCutter();
        x.machine(2, 2);
        Calls.book(x, "10x1;20x1;15x1;25x1");
        C.due("rounds()", x.rounds(), 0);
        // 1b1d is 45, then 1a1c
        plan(x, "1x1b1d;1x1a1c");
        x = new RollCutter();
        x.machine(2, 2);
        Calls.book(x, "20x1;22x1;28x1;30x1");
        // 1c1d is 58
        plan(x, "1x1c1d;1x1a1b");
        x = new RollCutter();
        x.machine(2, 2);
        x.machine(0, 50);
        Calls.book(x, "20x1;22x1;28x1;30x1");
        C.due("used of 1a1d and of 1b1c is 50: the earliest", x.cut(0, 13), 1);
        plan(x, "1x1a1d;1x1b1c");
        x = new RollCutter();
        x.machine(2, 2);
        x.machine(0, 50);
        Calls.book(x, "22x1;20x1;28x1;30x1");
        plan(x, "1x1a1c;1x1b1d");
    }

    /** Rows 5a 9/5 and 2b 3/2; 4a and 1b are due then: 2a1b are 46 and 4, 4a are 40 and 6; 3a1b don't go. */
    private static void fillWithKerf() {
        C.part("promise 19, filled with a kerf");
        RollCutter x = new RollCutter();
        x.machine(1, 2);
        x.machine(0, 58);
        Calls.book(x, "10x9;26x3");
        plan(x, "1x5a;1x2b;1x2a1b;1x2a");
        wastes(x, 0, 4, 8, 36);
    }

    private static void wrongNumbers() {
        C.part("promises 18 to 20, 23, 24, no such number");
        RollCutter x = Calls.withBook("40x3;20x5");
        int[] none = {-2, 4, Integer.MAX_VALUE, Integer.MIN_VALUE};
        for (int k : none) {
            C.due("rolls(" + k + ")", x.rolls(k), -1);
            C.due("cut(" + k + ", 0)", x.cut(k, 0), -1);
            C.due("cut(0, " + k + ")", x.cut(0, k), -1);
            C.due("cut(-1, " + k + ")", x.cut(-1, k), 2);
            C.due("waste(" + k + ")", x.waste(k), -1);
            C.due("sequence(" + k + ")", x.sequence(k), -1);
            C.due("open(" + k + ")", x.open(k), -1);
        }
        C.due("rolls(-1)", x.rolls(-1), -1);
        C.due("rolls(3)", x.rolls(3), -1);
        C.due("cut(2, 0)", x.cut(2, 0), -1);
        C.due("cut(0, -1)", x.cut(0, -1), -1);
        C.due("cut(0, 9)", x.cut(0, 9), -1);
        C.due("cut(0, 12)", x.cut(0, 12), -1);
        C.due("sequence(-1)", x.sequence(-1), -1);
        C.due("sequence(2)", x.sequence(2), -1);
        C.due("open(-1)", x.open(-1), -1);
        C.due("open(2)", x.open(2), -1);
    }

    /** An order that isn't wanted counts, too. */
    private static void fullUpByAnyOrder() {
        C.part("promise 19, full up");
        RollCutter x = Calls.withBook("40x3;22x5");
        C.due("cut(0, 3): neither of 20 goes", x.cut(0, 3), 1);
        x.order(20, 0);
        C.due("cut(0, 3): one of 20 goes", x.cut(0, 3), 0);
        x = Calls.withBook("31x2;16x0;33x0");
        C.due("cut(0, 2)", x.cut(0, 2), 31);
        C.due("cut(0, 3): one of 16 goes", x.cut(0, 3), 0);
        C.due("cut(0, 11)", x.cut(0, 11), 0);
        x.drop();
        x.drop();
        C.due("cut(0, 3): none of 31 goes", x.cut(0, 3), 1);
        x.order(29, 0);
        C.due("cut(0, 3): one of 29 just goes", x.cut(0, 3), 0);
        x.machine(1, 1);
        C.due("cut(0, 3): not with a kerf", x.cut(0, 3), 1);
    }

    private static void mostRolls() {
        C.part("promises 18 to 20, the most rolls");
        RollCutter x = new RollCutter();
        x.machine(2, 1);
        Calls.book(x, "60x40;59x40;58x40;57x40;56x40;55x40");
        rolls(x, 240, 240, 240);
        plan(x, "40x1a;40x1b;40x1c;40x1d;40x1e;40x1f");
        C.due("waste(-1)", x.waste(-1), 600);
        C.due("waste(39)", x.waste(39), 0);
        C.due("waste(40)", x.waste(40), 1);
        C.due("waste(239)", x.waste(239), 5);
        C.due("waste(240)", x.waste(240), -1);
        C.due("wasting(3)", x.wasting(3), 120);
        C.due("peak()", x.peak(), 1);
        C.due("sequence(5)", x.sequence(5), 5);
        C.due("carry()", x.carry(), 240);
    }

    private static void afterChanges() {
        C.part("promises 18 to 24, all is anew when something changes");
        RollCutter x = Calls.withBook("40x3;20x5");
        plan(x, "3x1a1b;1x2b");
        C.due("peak()", x.peak(), 2);
        x.due(0, 1);
        plan(x, "1x1a1b;1x3b;1x1b");
        x.machine(2, 1);
        plan(x, "1x1a;5x1b");
        C.due("peak()", x.peak(), 1);
        x.machine(2, 12);
        x.machine(1, 1);
        plan(x, "1x1a;2x2b;1x1b");
        x.machine(1, 0);
        x.machine(0, 59);
        plan(x, "1x1a;2x2b;1x1b");
        x.machine(0, 60);
        x.put(20);
        x.serve();
        plan(x, "1x1a1b;1x3b");
        x.image();
        x.drop();
        plan(x, "1x1a");
        x.undo();
        plan(x, "1x1a1b;1x3b");
        x.order(12, 5);
        C.due("rolls(2)", x.rolls(2), 3);
        x.carry();
        C.due("rolls(2) when nothing is due", x.rolls(2), 0);
    }

    private static void turns(RollCutter x, int peak, int[] sequence, int[] open) {
        C.due("peak()", x.peak(), peak);
        for (int i = 0; i < sequence.length; i++) {
            C.due("sequence(" + i + ")", x.sequence(i), sequence[i]);
            C.due("open(" + i + ")", x.open(i), open[i]);
        }
        C.due("sequence(" + sequence.length + ")", x.sequence(sequence.length), -1);
        C.due("open(" + sequence.length + ")", x.open(sequence.length), -1);
    }

    private static void sequences() {
        C.part("promises 22 to 24");
        turns(Calls.withBook("20x7"), 1, new int[] {0}, new int[] {1});
        turns(Calls.withBook("40x3;20x5"), 2, new int[] {0, 1}, new int[] {2, 1});
        // plan 3x1c1b.. : 2x1a1d; 3x1b1c; 1x2c2d; 1x3d: from a to d to c to b none but two are open
        RollCutter x = Calls.withBook("50x2;40x3;20x5;9x7");
        plan(x, "2x1a1d;3x1b1c;1x2c2d;1x3d");
        turns(x, 2, new int[] {0, 3, 1, 2}, new int[] {2, 2, 2, 1});
        // 3x6a1d;1x3a2b1c;1x3a1b1c;2x5a1c: a first would open all four; b opens a, b and c
        x = new RollCutter();
        x.machine(2, 7);
        x.machine(0, 59);
        Calls.book(x, "6x34;8x3;25x4;20x3");
        turns(x, 3, new int[] {1, 0, 2, 3}, new int[] {3, 3, 2, 1});
        // 2x3a; 1x2b; 1x1c1d; 1x3c: each by its number does
        turns(Calls.withBook("20x3;30x2;15x4;45x1"), 2, new int[] {0, 1, 2, 3}, new int[] {1, 1, 2, 1});
    }

    private static void sequenceWithOneNotWanted() {
        C.part("promises 22 to 24, one not wanted");
        RollCutter x = Calls.withBook("12x0;40x3;20x0;20x1;20x5");
        C.due("told(0), a width twice in the text", x.told(0), 0);
        x = Calls.withBook("12x0;40x3;22x0;20x5");
        turns(x, 2, new int[] {1, 3}, new int[] {2, 1});
    }
}
