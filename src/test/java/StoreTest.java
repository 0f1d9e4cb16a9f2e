/** Promises 25 to 28: plans carried out, what is served, the store of offcuts. */
public final class StoreTest {
    private static final Check C = new Check();

    public static void main(String[] args) {
        put();
        putFull();
        carry();
        carryKeepAndKerf();
        serve();
        serveWidestFirst();
        serveWhatIsLeft();
        serveKeepAndKerf();
        moreThanFull();
        C.end();
    }

    private static void put() {
        C.part("promises 27 and 28");
        RollCutter x = new RollCutter();
        C.due("put(1), below KEEP", x.put(1), 1);
        C.due("put(1)", x.put(1), 2);
        C.due("put(60)", x.put(60), 1);
        C.due("put(0)", x.put(0), -2);
        C.due("put(61)", x.put(61), -2);
        C.due("put(-1)", x.put(-1), -2);
        C.due("put(min)", x.put(Integer.MIN_VALUE), -2);
        C.due("put(max)", x.put(Integer.MAX_VALUE), -2);
        C.due("store(1)", x.store(1), 2);
        C.due("store(60)", x.store(60), 1);
        C.due("store(30)", x.store(30), 0);
        C.due("store(-1)", x.store(-1), 3);
        C.due("store(0)", x.store(0), -1);
        C.due("store(61)", x.store(61), -1);
        C.due("store(-2)", x.store(-2), -1);
        C.due("store(min)", x.store(Integer.MIN_VALUE), -1);
        x.machine(0, 20);
        C.due("put(40), above the size", x.put(40), 1);
    }

    private static void putFull() {
        C.part("promise 28, full");
        RollCutter x = new RollCutter();
        for (int k = 1; k <= 300; k++) {
            C.due("put(12)", x.put(12), k);
        }
        x = Calls.withMostOffcuts();
        C.due("put(10)", x.put(10), -4);
        C.due("store(10)", x.store(10), 999);
        C.due("put(13)", x.put(13), 1);
        C.due("put(61) is bad first", x.put(61), -2);
    }

    private static void carry() {
        C.part("promise 25");
        RollCutter x = new RollCutter();
        C.due("carry() of no orders", x.carry(), -3);
        x.order(20, 7);
        x.order(50, 0);
        // 2x3a without waste, 1x1a with 40
        C.due("carry()", x.carry(), 3);
        C.due("store(40)", x.store(40), 1);
        C.due("store(-1)", x.store(-1), 1);
        C.due("of(0, 1)", x.of(0, 1), 0);
        C.due("told(0)", x.told(0), 2);
        C.due("told(2)", x.told(2), 0);
        C.due("rows()", x.rows(), 0);
        C.due("rolls(2)", x.rolls(2), 0);
        C.due("carry() again", x.carry(), -3);
        x.due(1, 3);
        C.due("carry() of 50", x.carry(), 3);
        C.due("store(10), as much as KEEP", x.store(10), 3);
        C.due("store(-1)", x.store(-1), 4);
    }

    /** Waste of 40x1 with a kerf of 1: 20, of which 19 are left. */
    private static void carryKeepAndKerf() {
        C.part("promise 25, KEEP and KERF");
        RollCutter x = new RollCutter();
        x.order(40, 2);
        x.machine(1, 1);
        x.machine(3, 19);
        x.carry();
        C.due("store(19)", x.store(19), 2);
        x.machine(3, 20);
        x.due(0, 2);
        x.carry();
        C.due("store(-1), all below KEEP", x.store(-1), 2);
        x.machine(3, 1);
        x.order(59, 1);
        x.order(58, 0);
        // a waste of 1 isn't above the kerf
        x.carry();
        C.due("store(-1), nothing left", x.store(-1), 2);
        x.due(2, 4);
        x.carry();
        C.due("store(1), of a waste of 2", x.store(1), 4);
        x.machine(1, 2);
        x.due(2, 4);
        x.carry();
        C.due("store(-1), 2 isn't above 2", x.store(-1), 6);
    }

    private static void serve() {
        C.part("promise 26");
        RollCutter x = new RollCutter();
        C.due("serve() of nothing", x.serve(), 0);
        x.order(20, 3);
        C.due("serve() of an empty store", x.serve(), 0);
        x.put(19);
        C.due("serve() of 19", x.serve(), 0);
        C.due("store(19)", x.store(19), 1);
        x.put(20);
        x.put(25);
        x.put(35);
        C.due("serve()", x.serve(), 3);
        C.due("of(0, 1)", x.of(0, 1), 0);
        C.due("store(20)", x.store(20), 0);
        C.due("store(25)", x.store(25), 0);
        C.due("store(35)", x.store(35), 0);
        C.due("store(5), below KEEP", x.store(5), 0);
        C.due("store(15), left of 35", x.store(15), 1);
        C.due("store(-1)", x.store(-1), 2);
        C.due("serve(), nothing due", x.serve(), 0);
        x.due(0, 2);
        x.put(30);
        C.due("serve(), one of two", x.serve(), 1);
        C.due("of(0, 1)", x.of(0, 1), 1);
        C.due("store(10)", x.store(10), 1);
        C.due("least()", x.least(), 1);
    }

    /** The one offcut of 32 goes to the widest order, though it has the second number. */
    private static void serveWidestFirst() {
        C.part("promise 26, the widest first");
        RollCutter x = Calls.withBook("15x2;31x2;20x1");
        x.put(32);
        x.put(21);
        C.due("serve()", x.serve(), 2);
        C.due("of(0, 1)", x.of(0, 1), 2);
        C.due("of(1, 1)", x.of(1, 1), 1);
        C.due("of(2, 1)", x.of(2, 1), 0);
        C.due("store(-1)", x.store(-1), 0);
        x = Calls.withBook("15x1;31x1");
        x.put(31);
        x.put(40);
        // 31 of the 31; 15 of the 40, which leaves 25
        C.due("serve()", x.serve(), 2);
        C.due("store(25)", x.store(25), 1);
        C.due("store(-1)", x.store(-1), 1);
        x = Calls.withBook("60x1;5x12;59x1");
        x.put(60);
        x.put(60);
        // 60 and 59 are served
        C.due("serve()", x.serve(), 2);
        C.due("told(2)", x.told(2), 12);
        x.put(60);
        x.machine(3, 5);
        C.due("serve() of all that are left", x.serve(), 12);
        C.due("store(-1)", x.store(-1), 0);
        forty();
    }

    private static void forty() {
        RollCutter x = Calls.withBook("30x40");
        for (int k = 0; k < 41; k++) {
            x.put(30);
        }
        C.due("serve() of forty", x.serve(), 40);
        C.due("store(30)", x.store(30), 1);
    }

    /** What is left over of one piece serves the next one of the same order, and of narrower ones. */
    private static void serveWhatIsLeft() {
        C.part("promise 26, what is left over");
        RollCutter x = Calls.withBook("12x6;21x1");
        x.put(60);
        // 21 of 60, then 12 of 39, 27, 15: 3 are left, below KEEP
        C.due("serve()", x.serve(), 4);
        C.due("of(0, 1)", x.of(0, 1), 3);
        C.due("of(1, 1)", x.of(1, 1), 0);
        C.due("store(-1)", x.store(-1), 0);
        x.put(25);
        x.put(24);
        x.put(13);
        // 13, then 24, of which 12 are left: all three
        C.due("serve() of the smallest", x.serve(), 3);
        C.due("store(25)", x.store(25), 1);
        C.due("store(-1)", x.store(-1), 1);
    }

    private static void serveKeepAndKerf() {
        C.part("promise 26, KEEP and KERF");
        RollCutter x = Calls.withBook("20x1");
        x.machine(1, 2);
        x.machine(3, 1);
        x.put(22);
        C.due("serve()", x.serve(), 1);
        C.due("store(-1), 2 isn't above the kerf", x.store(-1), 0);
        x.due(0, 1);
        x.put(23);
        x.serve();
        C.due("store(1)", x.store(1), 1);
        x.due(0, 1);
        x.machine(3, 15);
        x.put(36);
        x.serve();
        C.due("store(14), below KEEP", x.store(14), 0);
        x.due(0, 1);
        x.put(37);
        x.serve();
        C.due("store(15)", x.store(15), 1);
    }

    private static void moreThanFull() {
        C.part("promises 25 and 28, more than 999");
        RollCutter x = Calls.withMostOffcuts();
        x.due(0, 3);
        C.due("carry()", x.carry(), 3);
        C.due("store(10)", x.store(10), 1002);
        C.due("store(-1)", x.store(-1), 1002);
        C.due("put(10)", x.put(10), -4);
        x.put(60);
        x.due(0, 1);
        C.due("serve()", x.serve(), 1);
        C.due("store(10) then", x.store(10), 1003);
    }
}
