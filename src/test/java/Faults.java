/** Part 4 of the document's terms: where a text is at fault. */
final class Faults {
    private static final Check C = Doc.C;

    private Faults() {
    }

    static void all() {
        whereItBegins();
        ofAnOrder();
        roomAhead();
        fromLeftToRight();
        otherwise();
        endsTooEarly();
        doesNothing();
    }

    private static void book(String text, int place) {
        C.due("book " + text, Calls.book(new RollCutter(), text), -100 - place);
    }

    private static void told(String text, int place) {
        C.due("told plan " + text, Calls.judge(Calls.withBook("30x3;20x6;12x9"), text), -100 - place);
    }

    private static void condition(String text, int place) {
        C.due("condition " + text, Calls.pick(Calls.withBook("30x3;20x6;12x9"), text), -100 - place);
        C.due("condition " + text, Calls.first(Calls.withBook("30x3;20x6;12x9"), text), -100 - place);
    }

    private static void whereItBegins() {
        Doc.says("4", "FAULT of a text: of a number that may not be, of a WORD that is none (an empty one, too), of a letter of no ORDER or not behind the one ahead, where that begins;");
        // numbers
        book("4x1", 0);
        book("04x1", 0);
        book("61x1", 0);
        book("99x1", 0);
        book("0x1", 0);
        book("20x41", 3);
        book("20x99", 3);
        book("20x1;30x41", 8);
        book("20x1;61x1", 5);
        told("0x1a", 0);
        told("00x1a", 0);
        told("1x0a", 2);
        told("1x00a", 2);
        told("1x13a", 2);
        told("1x99a", 2);
        told("1x1a13b", 4);
        told("1x1a;0x1a", 5);
        told("1x1a;1x1a0b", 9);
        // words
        condition("g>0", 0);
        condition("used>0&bb>0", 7);
        condition("a>0|unused>0", 4);
        condition("!>0", 1);
        condition("(>0)", 1);
        condition("a>0&>0", 4);
        condition("(((a>0|usedd>0)))", 7);
        // letters
        told("1x1d", 3);
        told("1x12f", 4);
        told("1x1z", 3);
        told("1x1b1a", 5);
        told("1x1b1b", 5);
        told("1x1a1c1b", 7);
        told("1x1a;1x1b2a", 10);
    }

    private static void ofAnOrder() {
        Doc.says("4", "of an ORDER for which there is no room, or whose WIDTH is had by another one already (in the text, too), where it begins");
        book("5x1;6x1;7x1;8x1;9x1;10x1;11x1", 25);
        book("20x1;20x1", 5);
        book("20x1;30x1;20x1", 10);
        book("7x1;07x1", 4);
        RollCutter x = Calls.withBook("5x1;6x1;7x1;8x1;9x1");
        C.due("room for one: the second", Calls.book(x, "11x1;12x1"), -105);
        C.due("a width had already", Calls.book(x, "5x1"), -100);
        C.due("the last one's", Calls.book(x, "09x1"), -100);
        C.due("one had already behind a good one", Calls.book(x, "8x40"), -100);
        C.due("room for one", Calls.book(x, "11x1"), 1);
        C.due("no room", Calls.book(x, "12x1"), -100);
        C.due("told(0)", x.told(0), 6);
        x.drop();
        C.due("a width that went", Calls.book(x, "11x1"), 1);
        RollCutter y = Calls.withBook("20x5;30x5");
        C.due("had already, the second of the text", Calls.book(y, "25x1;30x1"), -105);
        C.due("had in the text and not kept", Calls.book(y, "25x1"), 1);
    }

    private static void roomAhead() {
        Doc.says("4", "(a text is read from left to right; of figures two at most are taken; numbers, WIDTHS, letters, WORDS are looked at as soon as they are taken, room ahead of the ORDER's first byte);");
        RollCutter x = Calls.withBook("5x1;6x1;7x1;8x1;9x1;10x1");
        C.due("no room for nothing", Calls.book(x, ""), -100);
        C.due("no room for a blank", Calls.book(x, " "), -100);
        C.due("no room for a number that may not be", Calls.book(x, "99x1"), -100);
        book("5x1;6x1;7x1;8x1;9x1;10x1;", 25);
        book("5x1;6x1;7x1;8x1;9x1;10x1;;", 25);
        book("5x1;6x1;7x1;8x1;9x1;10x1;?", 25);
        book("5x1;6x1;7x1;8x1;9x1;10x1?", 24);
        book("5x1;6x1;7x1;8x1;9x1;10x41;", 23);
        book("5x1;6x1;7x1;8x1;8x1;10x1;11x1", 16);
    }

    /** What is taken first is at fault first. */
    private static void fromLeftToRight() {
        C.part("DOC 4, from left to right");
        book("4", 0);
        book("4?", 0);
        book("61?", 0);
        book("20x41?", 3);
        book("20x1;20", 5);
        book("20x1;20?", 5);
        book("20x1;4", 5);
        book("200x1", 2);
        book("610x1", 0);
        book("20x401", 5);
        book("20x411", 3);
        told("0", 0);
        told("0?", 0);
        told("1x0", 2);
        told("1x13", 2);
        told("1x13?", 2);
        told("1x123a", 4);
        told("1x133a", 2);
        told("1x1d?", 3);
        told("1x1b1a?", 5);
        told("0x0d", 0);
        told("1x0d", 2);
        // behind the letter of the last order a number is taken, then a letter is missing
        told("1x1c1a", 5);
        told("1x1c13", 4);
        told("1x1c0a", 4);
        condition("g", 0);
        condition("g?", 0);
        condition("used1", 4);
        condition("a>1&g", 4);
        condition("a>100", 4);
        condition("g>g", 0);
    }

    private static void otherwise() {
        Doc.says("4", "otherwise the place (from 0) of the first byte with which no such text goes on;");
        book("x", 0);
        book(";", 0);
        book("?", 0);
        book("20?", 2);
        book("20X5", 2);
        book("20x?", 3);
        book("20x5x", 4);
        book("20x5?", 4);
        book("20x5;?", 5);
        book("20x5;30?", 7);
        told("a", 0);
        told("?", 0);
        told("1?", 1);
        told("1X1a", 1);
        told("11a", 2);
        told("1xx", 2);
        told("1x?", 2);
        told("1x1?", 3);
        told("1x1;", 3);
        told("1x1x", 3);
        told("1x1ax", 4);
        told("1x1a?", 4);
        told("1x1a;?", 5);
        told("1x1a1?", 5);
        condition("?", 0);
        condition("1", 0);
        condition("a?", 1);
        condition("a>?", 2);
        condition("a>0?", 3);
        condition("a>0)", 3);
        condition("a>0a", 3);
        condition("(a>0?", 4);
        condition("(a>0(", 4);
        condition("((a>0)?", 6);
        condition("((a>0))?", 7);
        condition("!?", 1);
        condition("\u0001", 0);
        condition("\u007f", 0);
    }

    private static void endsTooEarly() {
        Doc.says("4", "the length, if it ends too early.");
        book("", 0);
        book("20", 2);
        book("20x", 3);
        book("20x5;", 5);
        book("20x5;30", 7);
        book("20x5;30x", 8);
        told("", 0);
        told("1", 1);
        told("1x", 2);
        told("1x1", 3);
        told("1x12", 4);
        told("1x1a1", 5);
        told("1x1c1", 5);
        told("1x1a;", 5);
        told("1x1a;1", 6);
        condition("", 0);
        condition("a", 1);
        condition("used", 4);
        condition("used>", 5);
        condition("a>0&", 4);
        condition("a>0|", 4);
        condition("!", 1);
        condition("(", 1);
        condition("(a>0", 4);
        condition("((a>0)", 6);
        condition("!!!!", 4);
        RollCutter x = Calls.withBook("20x1");
        C.due("a told plan of 90 bytes", Calls.judge(x, "1x1a;".repeat(18)), -190);
        C.due("a book of 90 bytes", Calls.book(x, "21x1" + ";".repeat(86)), -105);
    }

    private static void doesNothing() {
        Doc.says("4", "A text with a FAULT does nothing.");
        String was = Whole.of(Calls.withBook("30x3;20x6;12x9"));
        String[] books = {"31x1;32x1;33x1;34x1", "31x1;30x1", "31x1;32x1;", "31x1;32x41", "31x1,", "?", ""};
        for (String text : books) {
            RollCutter x = Calls.withBook("30x3;20x6;12x9");
            C.due("a fault of " + text, Calls.book(x, text) < -99 ? 1 : 0, 1);
            Whole.same("behind the book " + text, Whole.of(x), was);
        }
        RollCutter x = Calls.withBook("30x3;20x6;12x9");
        Calls.pick(x, "a>0|g>0");
        Calls.first(x, "a>0)");
        Calls.judge(x, "1x1a;1x1d");
        Whole.same("behind other texts", Whole.of(x), was);
        C.due("a good one behind", Calls.book(x, "31x1"), 1);
    }
}
