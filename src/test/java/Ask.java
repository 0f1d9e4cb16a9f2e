/** A call with one of its numbers left open. */
interface Ask {
    long of(int v);

    int[] FAR = {
        Integer.MIN_VALUE, Integer.MIN_VALUE + 1, Integer.MIN_VALUE + 10, -1000000000, -256, -100, -7,
        100, 256, 65536, 1000000000, Integer.MAX_VALUE - 10, Integer.MAX_VALUE - 1, Integer.MAX_VALUE,
    };

    /** The answer is the same for each of these, and for numbers far away on both sides. */
    static void far(String call, long due, Ask ask, int... these) {
        same(call, due, ask, these);
        same(call, due, ask, FAR);
    }

    static void same(String call, long due, Ask ask, int... these) {
        for (int v : these) {
            Doc.C.due(call + " for " + v, ask.of(v), due);
        }
    }
}
