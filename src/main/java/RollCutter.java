import java.util.Arrays;

/** Cuts ordered widths out of rolls; what each call does is told in DOC.md. */
public final class RollCutter {
    public static final int NONE = -1, BAD = -2, STATE = -3, FULL = -4;

    private static final int NONE_SUCH = -5;
    private static final long NO_SHARE = -1000000000L;

    private static final int MOST_ORDERS = 6;
    private static final int LEAST_WIDTH = 5;
    private static final int MOST_WIDTH = 60;
    private static final int MOST_DUE = 40;
    private static final int LEAST_SIZE = 20;
    private static final int MOST_SIZE = 60;
    private static final int MOST_KERF = 2;
    private static final int MOST_KNIVES = 12;
    private static final int MOST_OFFCUT = 60;
    private static final int MOST_OF_A_SIZE = 999;
    private static final int MOST_BYTES = 90;
    private static final int MOST_FIGURES = 2;
    private static final int MOST_TIMES = 99;
    private static final int MOST_NUMBER = 99;
    private static final int MOST_NESTED = 4;
    private static final int FAULTY = -100;

    /** A roll has a piece at least and 240 are due at most; rounding up adds less than a roll a row. */
    private static final int MOST_ROLLS = MOST_ORDERS * MOST_DUE + MOST_ORDERS;

    /** No run can need so many rounds; the loops that end of themselves are bounded by it. */
    private static final int FAR_TOO_MANY = 1000000;

    private static final int PIECE_BITS = 4;
    private static final int PIECE_MASK = 15;

    /** Places from which on `what` tells the pieces of an ORDER. */
    private static final int PIECES_FROM = 10;

    /** How far what is asked of the ORDERS has been worked out since they last changed. */
    private static final int SETTLED_NOTHING = 0;
    private static final int SETTLED_MASTER = 1;
    private static final int SETTLED_PLAN = 2;
    private static final int SETTLED_STACKS = 3;

    private static final int UNCOUNTED = -1;

    private final Shop shop;
    private final Shop imaged;
    private boolean hasImage;
    private final Search search;
    private final Master master;
    private final Planner planner;
    private final Stacks stacks;
    private final Tape tape;
    private final Book bookText;
    private final Condition condition;
    private final Paper sheet;
    private final int[] counted;
    private int settled;

    public RollCutter() {
        shop = new Shop();
        imaged = new Shop();
        hasImage = false;
        search = new Search();
        master = new Master();
        planner = new Planner();
        stacks = new Stacks();
        tape = new Tape();
        bookText = new Book();
        condition = new Condition();
        sheet = new Paper();
        counted = new int[] {UNCOUNTED, UNCOUNTED};
        settled = SETTLED_NOTHING;
    }

    // ---- orders and the machine

    public int order(int width, int due) {
        if (width < LEAST_WIDTH || width > shop.size || shop.hasWidth(width)) {
            return BAD;
        }
        if (!isDue(due)) {
            return BAD;
        }
        if (shop.orders >= MOST_ORDERS) {
            return FULL;
        }
        shop.comes(width, due);
        forget();
        return shop.orders - 1;
    }

    public int due(int order, int pieces) {
        if (!shop.hasOrder(order)) {
            return NONE;
        }
        if (!isDue(pieces)) {
            return BAD;
        }
        int was = shop.wants[order];
        shop.wants[order] = pieces;
        forget();
        return was;
    }

    public int of(int order, int what) {
        if (!shop.hasOrder(order)) {
            return NONE;
        }
        if (what == 0) {
            return shop.width[order];
        }
        return what == 1 ? shop.wants[order] : NONE;
    }

    public int drop() {
        if (shop.orders <= 0) {
            return STATE;
        }
        shop.orders--;
        forget();
        return shop.orders;
    }

    public int machine(int what, int v) {
        int was;
        switch (what) {
            case 0:
                if (v < LEAST_SIZE || v > MOST_SIZE || v < shop.widest()) {
                    return BAD;
                }
                was = shop.size;
                shop.size = v;
                break;
            case 1:
                if (v < 0 || v > MOST_KERF) {
                    return BAD;
                }
                was = shop.kerf;
                shop.kerf = v;
                break;
            case 2:
                if (v < 1 || v > MOST_KNIVES) {
                    return BAD;
                }
                was = shop.knives;
                shop.knives = v;
                break;
            case 3:
                if (v < 1 || v > MOST_OFFCUT) {
                    return BAD;
                }
                was = shop.keep;
                shop.keep = v;
                break;
            default:
                return NONE;
        }
        forget();
        return was;
    }

    public int patterns(int kind) {
        if (kind != 0 && kind != 1) {
            return NONE;
        }
        if (counted[kind] == UNCOUNTED) {
            counted[kind] = shop.countPatterns(kind == 1);
        }
        return counted[kind];
    }

    // ---- the master

    public int rows() {
        settle(SETTLED_MASTER);
        return master.rows;
    }

    public int row(int i, int what) {
        settle(SETTLED_MASTER);
        if (!master.hasRow(i)) {
            return NONE;
        }
        int pattern = master.pattern[i];
        if (what == 0) {
            return piecesIn(pattern);
        }
        return what == 1 ? shop.used(pattern) : piecesAsked(pattern, what);
    }

    public long amount(int i, int part) {
        settle(SETTLED_MASTER);
        if (!master.hasRow(i) || !isPart(part)) {
            return NONE;
        }
        return lowest(master.amount[i], master.under, part);
    }

    public long share(int i, int order, int part) {
        settle(SETTLED_MASTER);
        if (!master.hasRow(i) || !master.isWanted(order) || !isPart(part)) {
            return NO_SHARE;
        }
        return lowest(master.share[i][master.place[order]], master.under, part);
    }

    public long price(int order, int part) {
        if (!shop.hasOrder(order) || !isPart(part)) {
            return NONE;
        }
        settle(SETTLED_MASTER);
        if (!master.isWanted(order)) {
            return lowest(0L, 1L, part);
        }
        return lowest(master.price[master.place[order]], master.under, part);
    }

    public long bound(int part) {
        if (!isPart(part)) {
            return NONE;
        }
        settle(SETTLED_MASTER);
        return lowest(master.amounts(), master.under, part);
    }

    public int least() {
        settle(SETTLED_MASTER);
        return (int) roundedUp(master.amounts(), master.under);
    }

    public int rounds() {
        settle(SETTLED_MASTER);
        return master.rounds;
    }

    public int came(int k, int what) {
        settle(SETTLED_MASTER);
        if (k < 0 || k >= master.rounds) {
            return NONE;
        }
        if (what == 0) {
            return master.cameRow[k];
        }
        int pattern = master.camePattern[k];
        return what == 1 ? piecesIn(pattern) : piecesAsked(pattern, what);
    }

    public int leeway(int order) {
        if (!shop.hasOrder(order)) {
            return NONE;
        }
        settle(SETTLED_MASTER);
        if (!master.isWanted(order)) {
            return STATE;
        }
        long most = master.roomToGrow(master.place[order]);
        return most < 0 ? NONE_SUCH : (int) most;
    }

    // ---- the plan

    public int rolls(int way) {
        if (way < 0 || way > 2) {
            return NONE;
        }
        settle(SETTLED_PLAN);
        if (way == 0) {
            return planner.down.rollCount;
        }
        return way == 1 ? planner.up.rollCount : planner.chosen().rollCount;
    }

    public int cut(int i, int what) {
        settle(SETTLED_PLAN);
        Plan plan = planner.chosen();
        if (i == -1) {
            return plan.cuts;
        }
        if (i < 0 || i >= plan.cuts) {
            return NONE;
        }
        int pattern = plan.pattern[i];
        switch (what) {
            case 0:
                return plan.times[i];
            case 1:
                return piecesIn(pattern);
            case 2:
                return shop.used(pattern);
            case 3:
                return shop.isFullUp(pattern) ? 1 : 0;
            default:
                return piecesAsked(pattern, what);
        }
    }

    public int waste(int roll) {
        settle(SETTLED_PLAN);
        Plan plan = planner.chosen();
        if (roll < -1 || roll >= plan.rollCount) {
            return NONE;
        }
        int ahead = 0;
        int together = 0;
        for (int i = 0; i < plan.cuts; i++) {
            int wasted = shop.size - shop.used(plan.pattern[i]);
            if (roll >= ahead && roll < ahead + plan.times[i]) {
                return wasted;
            }
            ahead += plan.times[i];
            together += wasted * plan.times[i];
        }
        return together;
    }

    public int wasting(int n) {
        settle(SETTLED_PLAN);
        Plan plan = planner.chosen();
        int many = 0;
        for (int i = 0; i < plan.cuts; i++) {
            if (shop.size - shop.used(plan.pattern[i]) >= n) {
                many += plan.times[i];
            }
        }
        return many;
    }

    // ---- the stacks

    public int peak() {
        settle(SETTLED_STACKS);
        return stacks.highest;
    }

    public int sequence(int i) {
        settle(SETTLED_STACKS);
        return stacks.hasTurn(i) ? stacks.turn[i] : NONE;
    }

    public int open(int i) {
        settle(SETTLED_STACKS);
        return stacks.hasTurn(i) ? stacks.opened[i] : NONE;
    }

    // ---- the store

    public int carry() {
        if (shop.dueTogether() == 0) {
            return STATE;
        }
        settle(SETTLED_PLAN);
        Plan plan = planner.chosen();
        for (int i = 0; i < plan.cuts; i++) {
            int wasted = shop.size - shop.used(plan.pattern[i]);
            shop.leaveOver(wasted, plan.times[i]);
        }
        for (int j = 0; j < shop.orders; j++) {
            shop.wants[j] = 0;
        }
        forget();
        return plan.rollCount;
    }

    public int serve() {
        int served = 0;
        int below = MOST_WIDTH + 1;
        for (int turn = 0; turn < shop.orders; turn++) {
            int widest = shop.widestBelow(below);
            if (widest < 0) {
                break;
            }
            below = shop.width[widest];
            served += shop.serveOrder(widest);
        }
        forget();
        return served;
    }

    public int store(int size) {
        if (size == -1) {
            return shop.offcutsTogether();
        }
        return isOffcut(size) ? shop.offcuts[size] : NONE;
    }

    public int put(int size) {
        if (!isOffcut(size)) {
            return BAD;
        }
        if (shop.offcuts[size] >= MOST_OF_A_SIZE) {
            return FULL;
        }
        shop.offcuts[size]++;
        return shop.offcuts[size];
    }

    // ---- the tape and the paper

    public int feed(int letter) {
        if (letter < 1 || letter > 127) {
            return BAD;
        }
        if (tape.length >= MOST_BYTES) {
            return FULL;
        }
        tape.append(letter);
        return tape.length;
    }

    public int clear() {
        int had = tape.length;
        tape.length = 0;
        return had;
    }

    public int book() {
        bookText.read(tape, shop);
        if (tape.isFaulty()) {
            return FAULTY - tape.fault;
        }
        for (int k = 0; k < bookText.entries; k++) {
            shop.comes(bookText.width[k], bookText.wants[k]);
        }
        forget();
        return bookText.entries;
    }

    public int pick() {
        condition.read(tape);
        if (tape.isFaulty()) {
            return FAULTY - tape.fault;
        }
        settle(SETTLED_PLAN);
        Plan plan = planner.chosen();
        int many = 0;
        for (int i = 0; i < plan.cuts; i++) {
            if (condition.holds(shop, plan, i)) {
                many++;
            }
        }
        return many;
    }

    public int first() {
        condition.read(tape);
        if (tape.isFaulty()) {
            return FAULTY - tape.fault;
        }
        settle(SETTLED_PLAN);
        Plan plan = planner.chosen();
        for (int i = 0; i < plan.cuts; i++) {
            if (condition.holds(shop, plan, i)) {
                return i;
            }
        }
        return NONE_SUCH;
    }

    public int judge() {
        tape.rewind();
        int verdict = ToldPlan.judged(tape, shop);
        tape.length = 0;
        return tape.isFaulty() ? FAULTY - tape.fault : verdict;
    }

    public int spell() {
        settle(SETTLED_PLAN);
        Plan plan = planner.chosen();
        sheet.length = 0;
        for (int i = 0; i < plan.cuts; i++) {
            if (i > 0) {
                sheet.write(';');
            }
            sheet.writeNumber(plan.times[i]);
            sheet.write('x');
            spellPattern(plan.pattern[i]);
        }
        return sheet.length;
    }

    public int paper(int i) {
        return i >= 0 && i < sheet.length ? sheet.bytes[i] : NONE;
    }

    // ---- the whole

    public int told(int what) {
        switch (what) {
            case 0:
                return shop.orders;
            case 1:
                return shop.wantedOrders();
            case 2:
                return shop.dueTogether();
            case 3:
                return shop.size;
            case 4:
                return shop.kerf;
            case 5:
                return shop.knives;
            case 6:
                return shop.keep;
            case 7:
                return tape.length;
            case 8:
                return sheet.length;
            case 9:
                settle(SETTLED_MASTER);
                return master.unlikePatterns();
            default:
                return NONE;
        }
    }

    public int image() {
        imaged.becomes(shop);
        hasImage = true;
        return shop.orders;
    }

    public int undo() {
        if (!hasImage) {
            return STATE;
        }
        shop.becomes(imaged);
        forget();
        return shop.orders;
    }

    // ---- what the calls share

    private void forget() {
        settled = SETTLED_NOTHING;
        counted[0] = UNCOUNTED;
        counted[1] = UNCOUNTED;
    }

    private void settle(int wanted) {
        if (wanted >= SETTLED_MASTER && settled < SETTLED_MASTER) {
            master.solve(shop, search);
            settled = SETTLED_MASTER;
        }
        if (wanted >= SETTLED_PLAN && settled < SETTLED_PLAN) {
            planner.planDown(shop, master, search);
            planner.planUp(shop, master);
            settled = SETTLED_PLAN;
        }
        if (wanted >= SETTLED_STACKS && settled < SETTLED_STACKS) {
            stacks.arrange(shop, planner.chosen());
            settled = SETTLED_STACKS;
        }
    }

    private void spellPattern(int pattern) {
        for (int j = 0; j < shop.orders; j++) {
            int many = piecesOf(pattern, j);
            if (many > 0) {
                sheet.writeNumber(many);
                sheet.write('a' + j);
            }
        }
    }

    private int piecesAsked(int pattern, int what) {
        if (what < PIECES_FROM || what >= PIECES_FROM + shop.orders) {
            return NONE;
        }
        return piecesOf(pattern, what - PIECES_FROM);
    }

    private static boolean isDue(int pieces) {
        return pieces >= 0 && pieces <= MOST_DUE;
    }

    private static boolean isPart(int part) {
        return part == 0 || part == 1;
    }

    private static boolean isOffcut(int size) {
        return size >= 1 && size <= MOST_OFFCUT;
    }

    private static long quotient(long a, long b) {
        return b == 0 ? 0 : a / b;
    }

    private static long roundedUp(long a, long b) {
        return b == 0 ? 0 : (a + b - 1) / b;
    }

    private static long lowest(long above, long below, int part) {
        long a = Math.abs(above);
        long b = Math.abs(below);
        for (int k = 0; k < FAR_TOO_MANY && b != 0; k++) {
            long rest = a % b;
            a = b;
            b = rest;
        }
        return quotient(part == 0 ? above : below, a);
    }

    // ---- a PATTERN is one number, four bits an ORDER, ORDER 0 on top: so that the EARLIEST of
    // several is the greatest number, and unlike PATTERNS are unlike numbers

    private static int shiftOf(int order) {
        return PIECE_BITS * (MOST_ORDERS - 1 - order);
    }

    private static int onePiece(int order) {
        return order < 0 || order >= MOST_ORDERS ? 0 : 1 << shiftOf(order);
    }

    private static int piecesOf(int pattern, int order) {
        return order < 0 || order >= MOST_ORDERS ? 0 : (pattern >> shiftOf(order)) & PIECE_MASK;
    }

    private static int piecesIn(int pattern) {
        int many = 0;
        for (int j = 0; j < MOST_ORDERS; j++) {
            many += piecesOf(pattern, j);
        }
        return many;
    }

    // ---- the parts

    /** All that THE IMAGE holds: the orders, the machine, the store. */
    private static final class Shop {
        int orders = 0;
        final int[] width = new int[MOST_ORDERS];
        final int[] wants = new int[MOST_ORDERS];
        int size = MOST_SIZE;
        int kerf = 0;
        int knives = MOST_KNIVES;
        int keep = 10;
        final int[] offcuts = new int[MOST_OFFCUT + 1];

        void becomes(Shop other) {
            orders = other.orders;
            System.arraycopy(other.width, 0, width, 0, MOST_ORDERS);
            System.arraycopy(other.wants, 0, wants, 0, MOST_ORDERS);
            size = other.size;
            kerf = other.kerf;
            knives = other.knives;
            keep = other.keep;
            System.arraycopy(other.offcuts, 0, offcuts, 0, MOST_OFFCUT + 1);
        }

        boolean hasOrder(int order) {
            return order >= 0 && order < orders;
        }

        boolean hasWidth(int w) {
            for (int j = 0; j < orders; j++) {
                if (width[j] == w) {
                    return true;
                }
            }
            return false;
        }

        void comes(int w, int pieces) {
            if (orders < MOST_ORDERS) {
                width[orders] = w;
                wants[orders] = pieces;
                orders++;
            }
        }

        int widest() {
            int order = widestBelow(MOST_WIDTH + 1);
            return order < 0 ? 0 : width[order];
        }

        int widestBelow(int limit) {
            int widest = -1;
            for (int j = 0; j < orders; j++) {
                if (width[j] < limit && (widest < 0 || width[j] > width[widest])) {
                    widest = j;
                }
            }
            return widest;
        }

        int narrowest() {
            int least = MOST_WIDTH;
            for (int j = 0; j < orders; j++) {
                least = Math.min(least, width[j]);
            }
            return least;
        }

        int dueTogether() {
            int many = 0;
            for (int j = 0; j < orders; j++) {
                many += wants[j];
            }
            return many;
        }

        int wantedOrders() {
            int many = 0;
            for (int j = 0; j < orders; j++) {
                many += wants[j] > 0 ? 1 : 0;
            }
            return many;
        }

        int mostAlone(int order) {
            return Math.min(knives, (int) quotient(size + kerf, width[order] + kerf));
        }

        int used(int pattern) {
            int sum = 0;
            for (int j = 0; j < orders; j++) {
                sum += piecesOf(pattern, j) * width[j];
            }
            return sum + kerf * Math.max(0, piecesIn(pattern) - 1);
        }

        boolean isFullUp(int pattern) {
            if (piecesIn(pattern) >= knives) {
                return true;
            }
            return used(pattern) + kerf + narrowest() > size;
        }

        int countPatterns(boolean fullUpOnly) {
            if (orders == 0) {
                return 0;
            }
            // a kerf more of room, so that each piece takes one of its own
            int all = countFrom(this, 0, size + kerf, knives, fullUpOnly ? narrowest() + kerf : 0);
            // the choice of no piece was counted too; it is never full up
            return fullUpOnly ? all : all - 1;
        }

        /** Choices for the orders from k on; with a mark above 0, those that leave less than it or no knife. */
        private static int countFrom(Shop s, int k, int room, int knivesLeft, int mark) {
            if (k >= s.orders || k >= MOST_ORDERS) {
                return mark == 0 || room < mark || knivesLeft == 0 ? 1 : 0;
            }
            int span = s.width[k] + s.kerf;
            int many = 0;
            for (int n = 0; n <= knivesLeft && n * span <= room; n++) {
                many += countFrom(s, k + 1, room - n * span, knivesLeft - n, mark);
            }
            return many;
        }

        void leaveOver(int left, int times) {
            int offcut = left - kerf;
            if (offcut >= keep && isOffcut(offcut)) {
                offcuts[offcut] += times;
            }
        }

        int serveOrder(int order) {
            int served = 0;
            for (int k = 0; k < MOST_DUE && wants[order] > 0; k++) {
                int offcut = smallestOffcut(width[order]);
                if (offcut < 0) {
                    break;
                }
                offcuts[offcut]--;
                leaveOver(offcut - width[order], 1);
                wants[order]--;
                served++;
            }
            return served;
        }

        private int smallestOffcut(int least) {
            for (int k = Math.max(1, least); k <= MOST_OFFCUT; k++) {
                if (offcuts[k] > 0) {
                    return k;
                }
            }
            return -1;
        }

        int offcutsTogether() {
            int many = 0;
            for (int k = 1; k <= MOST_OFFCUT; k++) {
                many += offcuts[k];
            }
            return many;
        }
    }

    /** Finds the PATTERN that gains most, the EARLIEST of several, by trying most pieces first. */
    private static final class Search {
        int kinds = 0;
        final int[] unit = new int[MOST_ORDERS];
        final int[] span = new int[MOST_ORDERS];
        final int[] most = new int[MOST_ORDERS];
        final long[] gain = new long[MOST_ORDERS];
        final long[] topGain = new long[MOST_ORDERS + 1];
        final int[] topSpan = new int[MOST_ORDERS + 1];
        long best = 0;
        int found = 0;

        void restart() {
            kinds = 0;
        }

        void addKind(Shop shop, int order, int limit, long worth) {
            if (kinds < MOST_ORDERS) {
                unit[kinds] = onePiece(order);
                span[kinds] = shop.width[order] + shop.kerf;
                most[kinds] = limit;
                gain[kinds] = worth;
                kinds++;
            }
        }

        /** The PATTERN with the greatest gain that is above the floor (0 or more); 0: there is none. */
        int run(Shop shop, long floor) {
            topGain[kinds] = 0;
            topSpan[kinds] = 1;
            for (int k = kinds - 1; k >= 0; k--) {
                boolean better = gain[k] * topSpan[k + 1] > topGain[k + 1] * span[k];
                topGain[k] = better ? gain[k] : topGain[k + 1];
                topSpan[k] = better ? span[k] : topSpan[k + 1];
            }
            best = floor;
            found = 0;
            go(this, 0, shop.size + shop.kerf, shop.knives, 0L, 0);
            return found;
        }

        private static void go(Search s, int k, int room, int knives, long got, int pattern) {
            if (k >= s.kinds || k >= MOST_ORDERS) {
                if (got > s.best) {
                    s.best = got;
                    s.found = pattern;
                }
                return;
            }
            // the best gain for its span all over the room would not be more than what was found
            if (s.topGain[k] * room <= (s.best - got) * s.topSpan[k]) {
                return;
            }
            int span = s.span[k];
            int n = span <= 0 ? 0 : Math.min(room / span, Math.min(knives, s.most[k]));
            for (; n >= 0; n--) {
                go(s, k + 1, room - n * span, knives - n, got + n * s.gain[k], pattern + n * s.unit[k]);
            }
        }
    }

    /**
     * The rows in whole numbers over one that is under them all: the determinant of the rows'
     * PATTERNS, below 308572, so that all products fit a long and all divisions are even.
     */
    private static final class Master {
        int rows = 0;
        final int[] order = new int[MOST_ORDERS];
        final int[] place = new int[MOST_ORDERS];
        final int[] wants = new int[MOST_ORDERS];
        final int[] began = new int[MOST_ORDERS];
        final int[] pattern = new int[MOST_ORDERS];
        final long[][] share = new long[MOST_ORDERS][MOST_ORDERS];
        final long[] amount = new long[MOST_ORDERS];
        final long[] price = new long[MOST_ORDERS];
        final long[] step = new long[MOST_ORDERS];
        long under = 1;
        int rounds = 0;
        int[] cameRow = new int[64];
        int[] camePattern = new int[64];

        boolean hasRow(int i) {
            return i >= 0 && i < rows;
        }

        boolean isWanted(int order) {
            return order >= 0 && order < MOST_ORDERS && place[order] >= 0;
        }

        void solve(Shop shop, Search search) {
            begin(shop);
            addUp();
            for (int k = 0; k < FAR_TOO_MANY; k++) {
                int next = dearest(shop, search);
                if (next == 0) {
                    break;
                }
                findSteps(next);
                int taken = rowToTake();
                if (taken < 0) {
                    break;
                }
                note(taken, next);
                exchange(taken);
                pattern[taken] = next;
                addUp();
            }
        }

        private void begin(Shop shop) {
            rows = 0;
            rounds = 0;
            under = 1;
            for (int j = 0; j < MOST_ORDERS; j++) {
                place[j] = -1;
                if (j < shop.orders && shop.wants[j] > 0) {
                    place[j] = rows;
                    order[rows] = j;
                    wants[rows] = shop.wants[j];
                    began[rows] = shop.mostAlone(j) * onePiece(j);
                    pattern[rows] = began[rows];
                    under *= shop.mostAlone(j);
                    rows++;
                }
            }
            for (int i = 0; i < rows; i++) {
                Arrays.fill(share[i], 0L);
                share[i][i] = quotient(under, piecesIn(pattern[i]));
            }
        }

        private void addUp() {
            for (int k = 0; k < rows; k++) {
                amount[k] = 0;
                price[k] = 0;
                for (int i = 0; i < rows; i++) {
                    amount[k] += share[k][i] * wants[i];
                    price[k] += share[i][k];
                }
            }
        }

        /** The PATTERN with the greatest PRICE, if that is above 1; else 0. */
        private int dearest(Shop shop, Search search) {
            search.restart();
            for (int k = 0; k < rows; k++) {
                search.addKind(shop, order[k], shop.knives, price[k]);
            }
            return search.run(shop, under);
        }

        private void findSteps(int next) {
            for (int i = 0; i < rows; i++) {
                step[i] = 0;
                for (int k = 0; k < rows; k++) {
                    step[i] += share[i][k] * piecesOf(next, order[k]);
                }
            }
        }

        private int rowToTake() {
            int taken = -1;
            for (int i = 0; i < rows; i++) {
                if (step[i] > 0 && (taken < 0 || isLess(i, taken))) {
                    taken = i;
                }
            }
            return taken;
        }

        private boolean isLess(int i, int other) {
            long mine = amount[i] * step[other];
            long its = amount[other] * step[i];
            for (int k = 0; k < rows && mine == its; k++) {
                mine = share[i][k] * step[other];
                its = share[other][k] * step[i];
            }
            return mine < its;
        }

        private void note(int taken, int next) {
            if (rounds >= cameRow.length || rounds >= camePattern.length) {
                cameRow = Arrays.copyOf(cameRow, 2 * rounds + 1);
                camePattern = Arrays.copyOf(camePattern, 2 * rounds + 1);
            }
            cameRow[rounds] = taken;
            camePattern[rounds] = next;
            rounds++;
        }

        private void exchange(int taken) {
            long over = step[taken];
            for (int i = 0; i < rows; i++) {
                if (i != taken) {
                    for (int k = 0; k < rows; k++) {
                        share[i][k] = quotient(share[i][k] * over - step[i] * share[taken][k], under);
                    }
                }
            }
            under = over;
        }

        long amounts() {
            long sum = 0;
            for (int i = 0; i < rows; i++) {
                sum += amount[i];
            }
            return sum;
        }

        /** How far what is due of the k-th wanted order may grow; -1: without a bound. */
        long roomToGrow(int k) {
            long most = -1;
            for (int i = 0; i < rows; i++) {
                if (share[i][k] < 0) {
                    long here = quotient(amount[i], -share[i][k]);
                    most = most < 0 ? here : Math.min(most, here);
                }
            }
            return most;
        }

        int unlikePatterns() {
            int unlike = rows;
            for (int k = 0; k < rounds; k++) {
                if (!cameBefore(k)) {
                    unlike++;
                }
            }
            return unlike;
        }

        private boolean cameBefore(int k) {
            for (int i = 0; i < rows; i++) {
                if (began[i] == camePattern[k]) {
                    return true;
                }
            }
            for (int i = 0; i < k; i++) {
                if (camePattern[i] == camePattern[k]) {
                    return true;
                }
            }
            return false;
        }
    }

    /** CUTS as they came first, each PATTERN once. */
    private static final class Plan {
        int cuts = 0;
        int rollCount = 0;
        final int[] pattern = new int[MOST_ROLLS];
        final int[] times = new int[MOST_ROLLS];

        void restart() {
            cuts = 0;
            rollCount = 0;
        }

        void add(int what, int many) {
            int i = 0;
            while (i < cuts && pattern[i] != what) {
                i++;
            }
            if (i >= MOST_ROLLS) {
                return;
            }
            if (i == cuts) {
                pattern[i] = what;
                times[i] = 0;
                cuts++;
            }
            times[i] += many;
            rollCount += many;
        }
    }

    /** Makes both plans, and knows which is THE PLAN. */
    private static final class Planner {
        final Plan down = new Plan();
        final Plan up = new Plan();
        final int[] rest = new int[MOST_ORDERS];
        final int[] roll = new int[MOST_ROLLS];
        int laid = 0;

        Plan chosen() {
            return up.rollCount < down.rollCount ? up : down;
        }

        void planDown(Shop shop, Master master, Search search) {
            down.restart();
            for (int j = 0; j < shop.orders; j++) {
                rest[j] = shop.wants[j];
            }
            for (int i = 0; i < master.rows; i++) {
                cutDown(shop, master.pattern[i], (int) quotient(master.amount[i], master.under));
            }
            for (int k = 0; k < MOST_ROLLS; k++) {
                search.restart();
                for (int j = 0; j < shop.orders; j++) {
                    search.addKind(shop, j, rest[j], shop.width[j] + shop.kerf);
                }
                int fullest = search.run(shop, 0L);
                if (fullest == 0) {
                    break;
                }
                cutDown(shop, fullest, timesInRest(shop, fullest));
            }
        }

        private void cutDown(Shop shop, int pattern, int many) {
            if (many <= 0) {
                return;
            }
            down.add(pattern, many);
            for (int j = 0; j < shop.orders; j++) {
                rest[j] -= many * piecesOf(pattern, j);
            }
        }

        /** What is such a one stays such a one until it has more pieces than are due still. */
        private int timesInRest(Shop shop, int pattern) {
            int many = MOST_ROLLS;
            for (int j = 0; j < shop.orders; j++) {
                int pieces = piecesOf(pattern, j);
                if (pieces > 0) {
                    many = Math.min(many, rest[j] / pieces);
                }
            }
            return many;
        }

        void planUp(Shop shop, Master master) {
            layRolls(master);
            for (int j = 0; j < shop.orders; j++) {
                rest[j] = -shop.wants[j];
                for (int r = 0; r < laid; r++) {
                    rest[j] += piecesOf(roll[r], j);
                }
            }
            for (int r = laid - 1; r >= 0; r--) {
                roll[r] = trimmed(shop, roll[r]);
            }
            up.restart();
            for (int r = 0; r < laid; r++) {
                if (roll[r] != 0) {
                    up.add(roll[r], 1);
                }
            }
        }

        private void layRolls(Master master) {
            laid = 0;
            for (int i = 0; i < master.rows; i++) {
                long many = roundedUp(master.amount[i], master.under);
                for (int n = 0; n < many && laid < MOST_ROLLS; n++) {
                    roll[laid] = master.pattern[i];
                    laid++;
                }
            }
        }

        /** Here `rest` is what is too many. */
        private int trimmed(Shop shop, int pattern) {
            int left = pattern;
            for (int j = 0; j < shop.orders; j++) {
                int out = Math.min(Math.max(0, rest[j]), piecesOf(pattern, j));
                left -= out * onePiece(j);
                rest[j] -= out;
            }
            return left;
        }
    }

    /** The sequence with the least peak; sets of orders are bits of a number. */
    private static final class Stacks {
        static final int SETS = 1 << MOST_ORDERS;

        final int[] beside = new int[MOST_ORDERS];
        final int[] leastPeak = new int[SETS];
        final int[] turn = new int[MOST_ORDERS];
        final int[] opened = new int[MOST_ORDERS];
        int turns = 0;
        int highest = 0;

        boolean hasTurn(int i) {
            return i >= 0 && i < turns;
        }

        void arrange(Shop shop, Plan plan) {
            int wanted = 0;
            for (int j = 0; j < MOST_ORDERS; j++) {
                beside[j] = 0;
                if (j < shop.orders && shop.wants[j] > 0) {
                    wanted |= 1 << j;
                }
            }
            for (int i = 0; i < plan.cuts; i++) {
                standTogether(ordersIn(plan.pattern[i]));
            }
            findPeaks(wanted);
            follow(wanted);
        }

        private static int ordersIn(int pattern) {
            int set = 0;
            for (int j = 0; j < MOST_ORDERS; j++) {
                if (piecesOf(pattern, j) > 0) {
                    set |= 1 << j;
                }
            }
            return set;
        }

        private void standTogether(int set) {
            for (int j = 0; j < MOST_ORDERS; j++) {
                if ((set & (1 << j)) != 0) {
                    beside[j] |= set;
                }
            }
        }

        /** For each set that was in turn ahead the least peak of all that may follow. */
        private void findPeaks(int wanted) {
            for (int ahead = SETS - 1; ahead >= 0; ahead--) {
                leastPeak[ahead] = 0;
                if ((ahead & ~wanted) == 0 && ahead != wanted) {
                    leastPeak[ahead] = MOST_ORDERS + 1;
                    for (int j = 0; j < MOST_ORDERS; j++) {
                        if (((wanted & ~ahead) & (1 << j)) != 0) {
                            leastPeak[ahead] = Math.min(leastPeak[ahead], peakWith(ahead, j));
                        }
                    }
                }
            }
        }

        private int peakWith(int ahead, int order) {
            return Math.max(openWith(ahead, order), leastPeak[ahead | (1 << order)]);
        }

        private int openWith(int ahead, int order) {
            int touched = beside[order];
            for (int j = 0; j < MOST_ORDERS; j++) {
                if ((ahead & (1 << j)) != 0) {
                    touched |= beside[j];
                }
            }
            return Integer.bitCount(touched & ~ahead);
        }

        private void follow(int wanted) {
            highest = leastPeak[0];
            turns = 0;
            int ahead = 0;
            for (int k = 0; k < MOST_ORDERS && ahead != wanted; k++) {
                for (int j = 0; j < MOST_ORDERS; j++) {
                    if (((wanted & ~ahead) & (1 << j)) != 0 && peakWith(ahead, j) <= highest) {
                        turn[turns] = j;
                        opened[turns] = openWith(ahead, j);
                        turns++;
                        ahead |= 1 << j;
                        break;
                    }
                }
            }
        }
    }

    /** The bytes told, and the place to which they are read; behind a fault nothing is taken. */
    private static final class Tape {
        static final int END = 0;

        final int[] bytes = new int[MOST_BYTES];
        int length = 0;
        int at = 0;
        int fault = -1;

        void append(int letter) {
            if (length < MOST_BYTES) {
                bytes[length] = letter;
                length++;
            }
        }

        void rewind() {
            at = 0;
            fault = -1;
        }

        boolean isFaulty() {
            return fault >= 0;
        }

        void refuse(int where) {
            if (fault < 0) {
                fault = where;
            }
        }

        int look() {
            return at >= 0 && at < length && at < MOST_BYTES ? bytes[at] : END;
        }

        boolean isAtEnd() {
            return at >= length;
        }

        boolean isAtFigure() {
            return look() >= '0' && look() <= '9';
        }

        boolean takes(int sign) {
            if (isFaulty() || look() != sign) {
                return false;
            }
            at++;
            return true;
        }

        void need(int sign) {
            if (!takes(sign)) {
                refuse(at);
            }
        }

        int takeNumber(int least, int most) {
            if (isFaulty()) {
                return 0;
            }
            int start = at;
            int number = 0;
            for (int k = 0; k < MOST_FIGURES; k++) {
                int figure = look() - '0';
                if (figure < 0 || figure > 9) {
                    break;
                }
                number = 10 * number + figure;
                at++;
            }
            if (at == start || number < least || number > most) {
                refuse(start);
            }
            return number;
        }

        boolean reads(String word, int from, int to) {
            if (word.length() != to - from || from < 0 || to > MOST_BYTES) {
                return false;
            }
            for (int k = 0; k < word.length(); k++) {
                if (bytes[from + k] != word.charAt(k)) {
                    return false;
                }
            }
            return true;
        }
    }

    /** A BOOK as it was read. */
    private static final class Book {
        int entries = 0;
        final int[] width = new int[MOST_ORDERS];
        final int[] wants = new int[MOST_ORDERS];

        void read(Tape tape, Shop shop) {
            entries = 0;
            tape.rewind();
            for (int k = 0; k <= MOST_ORDERS; k++) {
                readEntry(tape, shop);
                if (tape.isFaulty() || tape.isAtEnd()) {
                    break;
                }
                tape.need(';');
            }
            tape.length = 0;
        }

        private void readEntry(Tape tape, Shop shop) {
            int start = tape.at;
            if (shop.orders + entries >= MOST_ORDERS) {
                tape.refuse(start);
            }
            int w = tape.takeNumber(LEAST_WIDTH, shop.size);
            if (shop.hasWidth(w) || hasWidthIn(w)) {
                tape.refuse(start);
            }
            tape.need('x');
            int pieces = tape.takeNumber(0, MOST_DUE);
            if (!tape.isFaulty() && entries < MOST_ORDERS) {
                width[entries] = w;
                wants[entries] = pieces;
                entries++;
            }
        }

        private boolean hasWidthIn(int w) {
            for (int k = 0; k < entries; k++) {
                if (width[k] == w) {
                    return true;
                }
            }
            return false;
        }
    }

    /** A TOLD PLAN, judged as it is read. */
    private static final class ToldPlan {
        static int judged(Tape tape, Shop shop) {
            int firstWrong = -1;
            int rollCount = 0;
            int missing = 0;
            int[] rest = shop.wants.clone();
            for (int k = 0; k < MOST_BYTES; k++) {
                int times = tape.takeNumber(1, MOST_TIMES);
                tape.need('x');
                int pattern = readPieces(tape, shop);
                if (tape.isFaulty()) {
                    return missing;
                }
                if (firstWrong < 0 && !isPattern(shop, pattern)) {
                    firstWrong = k;
                }
                rollCount += times;
                for (int j = 0; j < shop.orders; j++) {
                    rest[j] -= times * piecesOf(pattern, j);
                }
                if (tape.isAtEnd()) {
                    break;
                }
                tape.need(';');
            }
            return firstWrong >= 0 ? firstWrong : compared(shop, rest, rollCount);
        }

        private static int readPieces(Tape tape, Shop shop) {
            int pattern = 0;
            int last = -1;
            for (int k = 0; k < MOST_BYTES && (k == 0 || tape.isAtFigure()); k++) {
                int many = tape.takeNumber(1, MOST_KNIVES);
                int letter = tape.look() - 'a';
                if (letter <= last || letter >= shop.orders) {
                    tape.refuse(tape.at);
                }
                if (tape.isFaulty()) {
                    break;
                }
                tape.at++;
                pattern += many * onePiece(letter);
                last = letter;
            }
            return pattern;
        }

        private static boolean isPattern(Shop shop, int pattern) {
            return piecesIn(pattern) <= shop.knives && shop.used(pattern) <= shop.size;
        }

        private static int compared(Shop shop, int[] rest, int rollCount) {
            for (int j = 0; j < shop.orders; j++) {
                if (rest[j] != 0) {
                    return j + (rest[j] > 0 ? 100 : 200);
                }
            }
            return 1000 + rollCount;
        }
    }

    /** A CONDITION as steps, each behind those that it joins, so that it is read once for all CUTS. */
    private static final class Condition {
        static final int NOT = 0;
        static final int AND = 1;
        static final int OR = 2;
        static final int COMPARE = 3;

        static final int WORD_USED = 0;
        static final int WORD_WASTE = 1;
        static final int WORD_TIMES = 2;
        static final int WORD_PIECES = 3;
        static final int WORD_FULL = 4;
        static final int WORD_ORDER = 5;

        final int[] kind = new int[MOST_BYTES];
        final int[] word = new int[MOST_BYTES];
        final int[] sign = new int[MOST_BYTES];
        final int[] number = new int[MOST_BYTES];
        int steps = 0;
        final int[] value = new int[WORD_ORDER + MOST_ORDERS];
        final boolean[] stack = new boolean[MOST_BYTES + 1];

        void read(Tape tape) {
            steps = 0;
            tape.rewind();
            readEither(tape, 0);
            if (!tape.isAtEnd()) {
                tape.refuse(tape.at);
            }
            tape.length = 0;
        }

        private void readEither(Tape tape, int depth) {
            readBoth(tape, depth);
            for (int k = 0; k < MOST_BYTES && tape.takes('|'); k++) {
                readBoth(tape, depth);
                addStep(OR);
            }
        }

        private void readBoth(Tape tape, int depth) {
            readSingle(tape, depth);
            for (int k = 0; k < MOST_BYTES && tape.takes('&'); k++) {
                readSingle(tape, depth);
                addStep(AND);
            }
        }

        private void readSingle(Tape tape, int depth) {
            int inner = depth;
            while (inner < MOST_NESTED && tape.takes('!')) {
                inner++;
            }
            int nots = inner - depth;
            if (inner < MOST_NESTED && tape.takes('(')) {
                readEither(tape, inner + 1);
                tape.need(')');
            } else {
                readCompare(tape);
            }
            if (nots % 2 == 1) {
                addStep(NOT);
            }
        }

        private void readCompare(Tape tape) {
            if (tape.isFaulty()) {
                return;
            }
            int start = tape.at;
            for (int k = 0; k < MOST_BYTES && tape.look() >= 'a' && tape.look() <= 'z'; k++) {
                tape.at++;
            }
            int name = wordBetween(tape, start, tape.at);
            if (name < 0) {
                tape.refuse(start);
            }
            int compared = tape.look();
            if (compared != '<' && compared != '=' && compared != '>') {
                tape.refuse(tape.at);
            }
            tape.at++;
            int against = tape.takeNumber(0, MOST_NUMBER);
            if (steps < MOST_BYTES) {
                word[steps] = name;
                sign[steps] = compared;
                number[steps] = against;
            }
            addStep(COMPARE);
        }

        private static int wordBetween(Tape tape, int from, int to) {
            if (to - from == 1 && from >= 0 && from < MOST_BYTES) {
                int letter = tape.bytes[from] - 'a';
                return letter >= 0 && letter < MOST_ORDERS ? WORD_ORDER + letter : -1;
            }
            if (tape.reads("used", from, to)) {
                return WORD_USED;
            }
            if (tape.reads("waste", from, to)) {
                return WORD_WASTE;
            }
            if (tape.reads("times", from, to)) {
                return WORD_TIMES;
            }
            if (tape.reads("pieces", from, to)) {
                return WORD_PIECES;
            }
            return tape.reads("full", from, to) ? WORD_FULL : -1;
        }

        private void addStep(int what) {
            if (steps < MOST_BYTES) {
                kind[steps] = what;
                steps++;
            }
        }

        boolean holds(Shop shop, Plan plan, int cut) {
            int pattern = plan.pattern[cut];
            value[WORD_USED] = shop.used(pattern);
            value[WORD_WASTE] = shop.size - shop.used(pattern);
            value[WORD_TIMES] = plan.times[cut];
            value[WORD_PIECES] = piecesIn(pattern);
            value[WORD_FULL] = shop.isFullUp(pattern) ? 1 : 0;
            for (int j = 0; j < MOST_ORDERS; j++) {
                value[WORD_ORDER + j] = piecesOf(pattern, j);
            }
            int top = -1;
            for (int k = 0; k < steps; k++) {
                if (kind[k] == COMPARE && top < MOST_BYTES) {
                    top++;
                    stack[top] = isSo(k);
                } else if (kind[k] == NOT && top >= 0) {
                    stack[top] = !stack[top];
                } else if (top >= 1) {
                    top--;
                    boolean both = stack[top] && stack[top + 1];
                    boolean either = stack[top] || stack[top + 1];
                    stack[top] = kind[k] == AND ? both : either;
                }
            }
            return top >= 0 && stack[top];
        }

        private boolean isSo(int step) {
            if (word[step] < 0 || word[step] >= WORD_ORDER + MOST_ORDERS) {
                return false;
            }
            int is = value[word[step]];
            if (sign[step] == '<') {
                return is < number[step];
            }
            return sign[step] == '=' ? is == number[step] : is > number[step];
        }
    }

    /** What was spelled last; it grows with the longest. */
    private static final class Paper {
        int[] bytes = new int[128];
        int length = 0;

        void write(int sign) {
            if (length >= bytes.length) {
                bytes = Arrays.copyOf(bytes, 2 * length + 1);
            }
            bytes[length] = sign;
            length++;
        }

        /** Below 1000, as all TIMES and pieces are. */
        void writeNumber(int number) {
            for (int unit = 100; unit > 0; unit /= 10) {
                if (number >= unit || unit == 1) {
                    write('0' + number / unit % 10);
                }
            }
        }
    }
}
