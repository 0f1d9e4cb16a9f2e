/** The lines of the document under "Answers:". */
final class Answers {
    private static final Check C = Doc.C;

    private Answers() {
    }

    static void all() {
        constants();
        firstNamed();
        refusedChangesNothing();
        askedChangesNothing();
        faultsTold();
        tapeIsEmptyBehind();
        fractions();
        soManyCalls();
    }

    private static void constants() {
        Doc.says("Answers", "NONE (-1) no such number; BAD (-2) a number is not as told; STATE (-3) as told; FULL (-4);");
        C.due("NONE", RollCutter.NONE, -1);
        C.due("BAD", RollCutter.BAD, -2);
        C.due("STATE", RollCutter.STATE, -3);
        C.due("FULL", RollCutter.FULL, -4);
        RollCutter x = new RollCutter();
        C.due("no such number", x.of(0, 0), RollCutter.NONE);
        C.due("a number that is not as told", x.order(4, 1), RollCutter.BAD);
        C.due("a state", x.drop(), RollCutter.STATE);
        for (int k = 0; k < 6; k++) {
            x.order(20 + k, 1);
        }
        C.due("full", x.order(30, 1), RollCutter.FULL);
    }

    /** Where a call could answer several of them. */
    private static void firstNamed() {
        Doc.says("Answers", "the first that a call's words name.");
        RollCutter x = Calls.withBook("20x1;21x1;22x1;23x1;24x1;25x0");
        C.due("order: BAD (too wide) ahead of FULL", x.order(61, 1), -2);
        C.due("order: BAD (had already) ahead of FULL", x.order(25, 1), -2);
        C.due("order: BAD (due) ahead of FULL", x.order(30, 41), -2);
        C.due("order: FULL", x.order(30, 40), -4);
        C.due("due: NONE ahead of BAD", x.due(6, 41), -1);
        C.due("due: NONE ahead of BAD", x.due(-1, -1), -1);
        C.due("machine: NONE ahead of BAD", x.machine(4, -1), -1);
        C.due("machine: NONE ahead of BAD", x.machine(-1, 1000), -1);
        C.due("leeway: NONE", x.leeway(6), -1);
        C.due("leeway: STATE", x.leeway(5), -3);
        C.due("share: always the same", x.share(9, 9, 9), -1000000000L);
        for (int k = 0; k < 90; k++) {
            x.feed('a');
        }
        C.due("feed: BAD ahead of FULL", x.feed(0), -2);
        C.due("feed: BAD ahead of FULL", x.feed(128), -2);
        C.due("feed: FULL", x.feed(127), -4);
    }

    /** Of 30x3, 20x6, 12x0, 59x2; an image of that; an offcut more, a paper, a tape that begins a book. */
    private static RollCutter made() {
        RollCutter x = Calls.withBook("30x3;20x6;12x0;59x2");
        x.put(20);
        x.image();
        x.put(60);
        x.due(3, 1);
        x.spell();
        Calls.feed(x, "9");
        return x;
    }

    /** What the object is, with what stands on its tape and what its image holds. */
    private static String whole(RollCutter x) {
        StringBuilder b = new StringBuilder(Whole.of(x));
        Calls.feed(x, "x7");
        b.append("book 9x7: ").append(x.book()).append('\n');
        b.append("orders: ").append(x.told(0)).append('\n');
        b.append("due: ").append(x.told(2)).append('\n');
        b.append("undo: ").append(x.undo()).append('\n');
        b.append("due then: ").append(x.told(2)).append('\n');
        b.append("store then: ").append(x.store(-1)).append('\n');
        return b.toString();
    }

    private static final int REFUSED = 46;

    private static long refused(RollCutter x, int k) {
        switch (k) {
            case 0: return x.order(4, 1);
            case 1: return x.order(61, 1);
            case 2: return x.order(20, 1);
            case 3: return x.order(33, 41);
            case 4: return x.order(33, -1);
            case 5: return x.due(4, 1);
            case 6: return x.due(-1, 1);
            case 7: return x.due(0, 41);
            case 8: return x.due(0, -1);
            case 9: return x.of(4, 0);
            case 10: return x.of(0, 2);
            case 11: return x.of(-1, 0);
            case 12: return x.machine(4, 1);
            case 13: return x.machine(0, 58);
            case 14: return x.machine(0, 61);
            case 15: return x.machine(0, 19);
            case 16: return x.machine(1, 3);
            case 17: return x.machine(1, -1);
            case 18: return x.machine(2, 13);
            case 19: return x.machine(2, 0);
            case 20: return x.machine(3, 61);
            case 21: return x.machine(3, 0);
            case 22: return x.patterns(2);
            case 23: return x.row(9, 0);
            case 24: return x.amount(9, 0);
            case 25: return x.share(9, 0, 0);
            case 26: return x.price(9, 0);
            case 27: return x.bound(2);
            case 28: return x.came(9, 0);
            case 29: return x.leeway(9);
            case 30: return x.leeway(2);
            case 31: return x.rolls(3);
            case 32: return x.cut(99, 0);
            case 33: return x.cut(0, 99);
            case 34: return x.waste(99);
            case 35: return x.waste(-2);
            case 36: return x.sequence(9);
            case 37: return x.open(9);
            case 38: return x.store(0);
            case 39: return x.store(61);
            case 40: return x.put(0);
            case 41: return x.put(61);
            case 42: return x.feed(0);
            case 43: return x.feed(128);
            case 44: return x.paper(99);
            default: return x.told(10);
        }
    }

    private static void refusedChangesNothing() {
        Doc.says("Answers", "What is answered so changes nothing;");
        String was = whole(made());
        for (int k = 0; k < REFUSED; k++) {
            RollCutter x = made();
            C.due("refused call " + k, refused(x, k) < 0 ? 1 : 0, 1);
            Whole.same("behind refused call " + k, whole(x), was);
        }
        refusedWhenFull();
        refusedWithNothing();
    }

    private static void refusedWhenFull() {
        RollCutter x = made();
        RollCutter y = made();
        x.order(7, 1);
        x.order(8, 1);
        y.order(7, 1);
        y.order(8, 1);
        C.due("a seventh order", y.order(9, 1), -4);
        Whole.same("behind a seventh order", Whole.of(y), Whole.of(x));
        x = new RollCutter();
        for (int k = 0; k < 90; k++) {
            x.feed(k < 88 ? "20x1;21x1;".charAt(k % 10) : 'a');
        }
        C.due("byte 91", x.feed('x'), -4);
        C.due("told(7)", x.told(7), 90);
        C.due("the tape as it was", x.book(), -110);
    }

    private static void refusedWithNothing() {
        RollCutter x = new RollCutter();
        String was = Whole.of(new RollCutter());
        C.due("drop()", x.drop(), -3);
        C.due("carry()", x.carry(), -3);
        C.due("undo()", x.undo(), -3);
        C.due("serve()", x.serve(), 0);
        Whole.same("behind calls of nothing", Whole.of(x), was);
        x = Calls.withBook("30x0;20x0");
        x.put(30);
        was = Whole.of(x);
        RollCutter y = Calls.withBook("30x0;20x0");
        y.put(30);
        C.due("carry() with nothing due", y.carry(), -3);
        Whole.same("behind carry() with nothing due", Whole.of(y), was);
    }

    private static void askedChangesNothing() {
        Doc.says("Answers", "what is asked changes nothing but THE PAPER.");
        String was = whole(made());
        RollCutter x = made();
        Whole.of(x);
        Whole.same("asked twice", whole(x), was);
        // spell() makes the paper that is there already
        x = made();
        x.spell();
        Whole.same("behind spell()", whole(x), was);
        // a text that is asked empties the tape, and that is all
        RollCutter y = made();
        y.clear();
        was = Whole.of(y);
        String[] texts = {"a>0", "a>0&full=1|!waste<9", "a>0?", "1x1a;1x1b1c", "3x1a;6x1b;1x1d", "1x", ""};
        for (String text : texts) {
            x = made();
            x.clear();
            Calls.pick(x, text);
            Calls.first(x, text);
            Calls.judge(x, text);
            Whole.same("behind " + text, Whole.of(x), was);
        }
        askedBetween();
    }

    /** What is asked first is as it is when something else was asked ahead. */
    private static void askedBetween() {
        long[] alone = new long[12];
        for (int k = 0; k < alone.length; k++) {
            alone[k] = asked(Calls.withBook("30x3;20x6;12x9"), k);
        }
        for (int k = 0; k < alone.length; k++) {
            for (int other = 0; other < alone.length; other++) {
                RollCutter x = Calls.withBook("30x3;20x6;12x9");
                asked(x, other);
                C.due("asked " + k + " behind " + other, asked(x, k), alone[k]);
            }
        }
    }

    private static long asked(RollCutter x, int k) {
        switch (k) {
            case 0: return x.rows();
            case 1: return x.rolls(0);
            case 2: return x.rolls(1);
            case 3: return x.peak();
            case 4: return x.sequence(1);
            case 5: return x.cut(2, 0);
            case 6: return x.waste(-1);
            case 7: return x.patterns(0);
            case 8: return x.patterns(1);
            case 9: return x.bound(0);
            case 10: return x.told(9);
            default: return x.spell();
        }
    }

    private static void faultsTold() {
        Doc.says("Answers", "-100 less the FAULT of a text;");
        RollCutter x = Calls.withBook("20x1");
        C.due("a fault at 0", Calls.book(x, "?"), -100);
        C.due("a fault at 0", Calls.pick(x, "?"), -100);
        C.due("a fault at 0", Calls.first(x, "?"), -100);
        C.due("a fault at 0", Calls.judge(x, "?"), -100);
        C.due("a fault at 1", Calls.pick(x, "a"), -101);
        C.due("a fault at 89", Calls.judge(x, "1x1a;".repeat(17) + "1x1a?"), -189);
        C.due("a fault at 90", Calls.judge(x, "1x1a;".repeat(18)), -190);
        C.due("a fault at 90", Calls.first(x, "a>0|b>0|c>0|d>0|".repeat(5) + "a>0|b>0|aa"), -188);
    }

    private static void tapeIsEmptyBehind() {
        Doc.says("Answers", "THE TAPE is empty behind each call that reads it.");
        String[] texts = {"", "30x1", "a>0", "1x1a", "?", "20x1;", "a>0&", "1x1a;", "a".repeat(90)};
        for (String text : texts) {
            for (int reader = 0; reader < 4; reader++) {
                RollCutter x = Calls.withBook("20x2");
                Calls.feed(x, text);
                int answer = reader == 0 ? x.book() : reader == 1 ? x.pick() : reader == 2 ? x.first() : x.judge();
                C.due("told(7) behind reader " + reader + " of " + text + ", which answered " + answer, x.told(7), 0);
                C.due("clear() behind it", x.clear(), 0);
                boolean came = reader == 0 && answer == 1;
                C.due("the next text behind it", Calls.judge(x, "1x2a"), came ? 101 : 1001);
            }
        }
        RollCutter x = Calls.withBook("20x2");
        Calls.feed(x, "1x");
        Whole.of(x);
        x.spell();
        x.image();
        x.undo();
        x.serve();
        x.put(9);
        x.machine(1, 1);
        x.due(0, 2);
        Calls.feed(x, "2a");
        C.due("the tape stays by other calls", x.judge(), 1001);
        Calls.feed(x, "1x2a");
        x.carry();
        x.order(30, 1);
        x.drop();
        C.due("the tape stays by carry(), order(), drop()", x.judge(), 200);
    }

    private static void fractions() {
        Doc.says("Answers", "Fractions are told in lowest terms: part 0 what is above the line, part 1 below it (1 or more).");
        RollCutter x = Calls.withBook("20x6");
        C.due("2 above", x.amount(0, 0), 2);
        C.due("2 below", x.amount(0, 1), 1);
        C.due("bound 2 below", x.bound(1), 1);
        x = Calls.withBook("5x10");
        C.due("10/12 above", x.amount(0, 0), 5);
        C.due("10/12 below", x.amount(0, 1), 6);
        x = Calls.withBook("40x3;20x3");
        C.due("0 above", x.amount(0, 0), 0);
        C.due("0 below", x.amount(0, 1), 1);
        C.due("a price of 0 above", x.price(1, 0), 0);
        C.due("a price of 0 below", x.price(1, 1), 1);
        C.due("a share of -1 above", x.share(0, 1, 0), -1);
        C.due("a share of -1 below", x.share(0, 1, 1), 1);
        C.due("a share of 0 below", x.share(1, 0, 1), 1);
        x = Calls.withBook("40x3;20x5;10x0");
        C.due("a share of -1/3 above", x.share(1, 0, 0), -1);
        C.due("a share of -1/3 below", x.share(1, 0, 1), 3);
        C.due("a price that isn't asked for, above", x.price(2, 0), 0);
        C.due("a price that isn't asked for, below", x.price(2, 1), 1);
        x = new RollCutter();
        C.due("a bound of nothing, above", x.bound(0), 0);
        C.due("a bound of nothing, below", x.bound(1), 1);
        Ask.far("part of a bound", -1, x::bound, -1, 2);
    }

    private static void soManyCalls() {
        Doc.says("What it is", "An object is used for at most 512 calls after it has been made;");
        RollCutter x = new RollCutter();
        for (int k = 1; k <= 509; k += 3) {
            C.due("call " + k, x.order(5 + k % 50, 20), 0);
            C.due("call " + (k + 1), x.machine(2, 1 + k % 12) > 0 ? 1 : 0, 1);
            C.due("call " + (k + 2), x.drop(), 0);
        }
        C.due("call 511", x.order(60, 40), 0);
        C.due("call 512", x.rolls(2), 40);
        dearCalls();
    }

    /** Six narrow orders, and all of it anew each second call. */
    private static void dearCalls() {
        RollCutter x = Calls.withBook("5x40;6x39;7x38;8x37;9x36;10x35");
        int calls = "5x40;6x39;7x38;8x37;9x36;10x35".length() + 1;
        for (; calls + 4 <= 509; calls += 4) {
            C.due("one call", x.due(calls % 6, 30 + calls % 11) > 0 ? 1 : 0, 1);
            C.due("two calls", x.peak() > 1 ? 1 : 0, 1);
            C.due("three calls", x.spell() > 3 ? 1 : 0, 1);
            C.due("four calls", x.patterns(1) > 99 ? 1 : 0, 1);
        }
        C.due("told(0)", x.told(0), 6);
        C.due("due(0, 0)", x.due(0, 0) > 0 ? 1 : 0, 1);
        C.due("rows()", x.rows(), 5);
    }
}
