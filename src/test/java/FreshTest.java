/**
 * Each call asked first of all, and each again behind each change, with nothing asked between:
 * so that nothing is told that another call would have to work out.
 */
public final class FreshTest {
    private static final Check C = new Check();

    private static final String[] CALLS = {
        "rows", "row", "amount", "share", "price", "bound", "least", "rounds", "came", "leeway",
        "rolls", "cut", "waste", "wasting", "peak", "sequence", "open", "patterns", "told", "spell",
        "pick", "first", "carry",
    };

    /** Of 40x3, 20x5: as MasterTest and PlanTest derive it. */
    private static final long[] BEFORE = {
        2, 2, 3, 1, 2, 11, 4, 1, 0, 2, 4, 3, 20, 1, 2, 0, 2, 5, 3, 11, 2, 0, 4,
    };

    /** Of 40x3, 20x5, 50x2: a row more, and the plan is 3x1a1b;2x1c;1x2b. */
    private static final long[] BEHIND = {
        3, 2, 3, 1, 2, 17, 6, 1, 0, 2, 6, 3, 40, 3, 2, 0, 2, 6, 4, 16, 2, 0, 6,
    };

    public static void main(String[] args) {
        asked("asked first", 0, BEFORE);
        asked("behind order()", 1, BEHIND);
        asked("behind book()", 2, BEHIND);
        asked("behind due()", 3, BEHIND);
        asked("behind undo()", 4, BEFORE);
        asked("behind drop()", 5, BEFORE);
        asked("behind serve()", 6, BEFORE);
        asked("behind machine(0, ..)", 7, BEFORE);
        asked("behind machine(1, ..)", 8, BEFORE);
        asked("behind machine(2, ..)", 9, BEFORE);
        behindCarry();
        C.end();
    }

    private static void asked(String when, int change, long[] due) {
        C.part(when);
        for (int k = 0; k < CALLS.length; k++) {
            RollCutter x = made(change);
            if (change > 0 && !CALLS[k].equals("carry")) {
                ask(x, k);
            }
            changed(x, change);
            C.due(CALLS[k], ask(x, k), due[k]);
        }
    }

    private static RollCutter made(int change) {
        RollCutter x = Calls.withBook("40x3;20x5");
        if (change == 3) {
            x.order(50, 0);
        } else if (change == 4) {
            x.image();
            x.due(0, 9);
            x.order(13, 7);
        } else if (change == 5) {
            x.order(13, 7);
        } else if (change == 6) {
            x.due(0, 4);
            x.put(40);
        } else if (change == 7) {
            x.machine(0, 50);
        } else if (change == 8) {
            x.machine(1, 1);
        } else if (change == 9) {
            x.machine(2, 1);
        }
        return x;
    }

    private static void changed(RollCutter x, int change) {
        switch (change) {
            case 1: x.order(50, 2); break;
            case 2: Calls.book(x, "50x2"); break;
            case 3: x.due(2, 2); break;
            case 4: x.undo(); break;
            case 5: x.drop(); break;
            case 6: x.serve(); break;
            case 7: x.machine(0, 60); break;
            case 8: x.machine(1, 0); break;
            case 9: x.machine(2, 12); break;
            default:
        }
    }

    private static long ask(RollCutter x, int k) {
        switch (k) {
            case 0: return x.rows();
            case 1: return x.row(0, 0);
            case 2: return x.amount(0, 0);
            case 3: return x.share(0, 0, 1);
            case 4: return x.price(0, 0);
            case 5: return x.bound(0);
            case 6: return x.least();
            case 7: return x.rounds();
            case 8: return x.came(0, 0);
            case 9: return x.leeway(0);
            case 10: return x.rolls(2);
            case 11: return x.cut(0, 0);
            case 12: return x.waste(-1);
            case 13: return x.wasting(9);
            case 14: return x.peak();
            case 15: return x.sequence(0);
            case 16: return x.open(0);
            case 17: return x.patterns(0);
            case 18: return x.told(9);
            case 19: return x.spell();
            case 20: return Calls.pick(x, "b>0");
            case 21: return Calls.first(x, "b>0");
            default: return x.carry();
        }
    }

    private static void behindCarry() {
        C.part("behind carry()");
        long[] due = {
            0, -1, -1, -1000000000, 0, 0, 0, 0, -1, -3, 0, -1, 0, 0, 0, -1, -1, 5, 0, 0, 0, -5, -3,
        };
        for (int k = 0; k < CALLS.length; k++) {
            RollCutter x = made(0);
            if (!CALLS[k].equals("carry")) {
                ask(x, k);
            }
            x.carry();
            C.due(CALLS[k], ask(x, k), due[k]);
        }
    }
}
