/** What several tests do alike. */
final class Calls {
    private Calls() {
    }

    static void feed(RollCutter x, String text) {
        for (int i = 0; i < text.length(); i++) {
            x.feed(text.charAt(i));
        }
    }

    /** An object whose orders came out of a book. */
    static RollCutter withBook(String text) {
        RollCutter x = new RollCutter();
        feed(x, text);
        x.book();
        return x;
    }

    /**
     * An object with 999 offcuts of 10, from 40 rolls with a waste of 10 at a time and 39 of the
     * first: so that some 450 of the 512 calls that it is good for are left.
     */
    static RollCutter withMostOffcuts() {
        RollCutter x = withBook("50x39");
        x.carry();
        for (int k = 1; k <= 24; k++) {
            x.due(0, 40);
            x.carry();
        }
        return x;
    }

    static int book(RollCutter x, String text) {
        feed(x, text);
        return x.book();
    }

    static int pick(RollCutter x, String text) {
        feed(x, text);
        return x.pick();
    }

    static int first(RollCutter x, String text) {
        feed(x, text);
        return x.first();
    }

    static int judge(RollCutter x, String text) {
        feed(x, text);
        return x.judge();
    }

    static String spelled(RollCutter x) {
        int many = x.spell();
        StringBuilder b = new StringBuilder();
        for (int i = 0; i < many; i++) {
            b.append((char) x.paper(i));
        }
        return b.toString();
    }
}
