/** Promises 29 to 36: the tape, books, conditions, told plans, the paper. */
public final class TextTest {
    private static final Check C = new Check();

    public static void main(String[] args) {
        feed();
        clear();
        bookComes();
        bookFaults();
        bookFaultDoesNothing();
        bookRoom();
        bookWidths();
        bookFollowsTheSize();
        pickAndFirst();
        conditionsJoined();
        conditionsNested();
        conditionFaults();
        conditionAllWords();
        judge();
        judgeNoPattern();
        judgeFaults();
        spell();
        tapeIsEmptyBehindEach();
        C.end();
    }

    private static void feed() {
        C.part("promise 29");
        RollCutter x = new RollCutter();
        C.due("feed(1)", x.feed(1), 1);
        C.due("feed(127)", x.feed(127), 2);
        C.due("feed(0)", x.feed(0), -2);
        C.due("feed(128)", x.feed(128), -2);
        C.due("feed(-1)", x.feed(-1), -2);
        C.due("feed(min)", x.feed(Integer.MIN_VALUE), -2);
        for (int k = 3; k <= 90; k++) {
            C.due("feed(65)", x.feed(65), k);
        }
        C.due("feed(65), full", x.feed(65), -4);
        C.due("feed(128), bad first", x.feed(128), -2);
        C.due("told(7)", x.told(7), 90);
    }

    private static void clear() {
        C.part("promise 30");
        RollCutter x = new RollCutter();
        C.due("clear()", x.clear(), 0);
        Calls.feed(x, "20x");
        C.due("clear() of three", x.clear(), 3);
        C.due("told(7)", x.told(7), 0);
        C.due("clear() again", x.clear(), 0);
        C.due("book() behind it", Calls.book(x, "30x5"), 1);
        C.due("of(0, 0)", x.of(0, 0), 30);
        Calls.feed(x, "A".repeat(90));
        C.due("clear() of ninety", x.clear(), 90);
        C.due("feed(65)", x.feed(65), 1);
    }

    private static void bookComes() {
        C.part("promise 31");
        RollCutter x = new RollCutter();
        C.due("20x5", Calls.book(x, "20x5"), 1);
        C.due("of(0, 0)", x.of(0, 0), 20);
        C.due("of(0, 1)", x.of(0, 1), 5);
        C.due("05x00;60x40", Calls.book(x, "05x00;60x40"), 2);
        C.due("of(1, 0)", x.of(1, 0), 5);
        C.due("of(1, 1)", x.of(1, 1), 0);
        C.due("of(2, 0)", x.of(2, 0), 60);
        C.due("of(2, 1)", x.of(2, 1), 40);
        C.due("7x7;8x8;9x9", Calls.book(x, "7x7;8x8;9x9"), 3);
        C.due("told(0)", x.told(0), 6);
        C.due("told(2)", x.told(2), 69);
    }

    private static void bookFault(String text, int fault) {
        RollCutter x = new RollCutter();
        C.due("book " + text, Calls.book(x, text), -100 - fault);
        C.due("told(0) behind it", x.told(0), 0);
        C.due("told(7) behind it", x.told(7), 0);
    }

    private static void bookFaults() {
        C.part("promise 31, faults");
        bookFault("", 0);
        bookFault("x5", 0);
        bookFault("4x5", 0);
        bookFault("61x5", 0);
        bookFault("00x5", 0);
        bookFault("99", 0);
        bookFault("4", 0);
        bookFault("2", 0);
        bookFault("20", 2);
        bookFault("200x5", 2);
        bookFault("20y5", 2);
        bookFault("20X5", 2);
        bookFault("20x", 3);
        bookFault("20xx", 3);
        bookFault("20x41", 3);
        bookFault("20x99", 3);
        bookFault("20x415", 3);
        bookFault("20x405", 5);
        bookFault("20x5,", 4);
        bookFault("20x5 ", 4);
        bookFault(" 20x5", 0);
        bookFault("20 x5", 2);
        bookFault("20x5;", 5);
        bookFault("20x5;;30x1", 5);
        bookFault("20x5;20x6", 5);
        bookFault("20x5;20", 5);
        bookFault("20x5;20y", 5);
        bookFault("20x5;4x6", 5);
        bookFault("20x5;30x41", 8);
        bookFault("20x5;30x4:", 9);
        bookFault("7x5;07x1", 4);
        bookFault("/x5", 0);
        bookFault(":x5", 0);
        bookFault("-20x5", 0);
        bookFault("\u0001", 0);
    }

    private static void bookFaultDoesNothing() {
        C.part("promise 31, a fault does nothing");
        RollCutter x = Calls.withBook("30x5");
        C.due("least()", x.least(), 3);
        C.due("20x5;40x9;41", Calls.book(x, "20x5;40x9;41"), -112);
        C.due("told(0)", x.told(0), 1);
        C.due("least()", x.least(), 3);
        C.due("20x5", Calls.book(x, "20x5"), 1);
    }

    private static void bookRoom() {
        C.part("promise 31, room");
        RollCutter x = new RollCutter();
        C.due("seven", Calls.book(x, "5x1;6x1;7x1;8x1;9x1;10x1;11x1"), -125);
        C.due("told(0)", x.told(0), 0);
        C.due("six, and one that is none", Calls.book(x, "5x1;6x1;7x1;8x1;9x1;10x1;"), -125);
        C.due("six, and something else", Calls.book(x, "5x1;6x1;7x1;8x1;9x1;10x1:"), -124);
        C.due("four", Calls.book(x, "5x1;6x1;7x1;8x1"), 4);
        C.due("three more", Calls.book(x, "9x1;10x1;11x1"), -109);
        C.due("three more, a fault ahead", Calls.book(x, "9x1;8x1;11x1"), -104);
        C.due("two more", Calls.book(x, "9x1;10x1"), 2);
        C.due("one more", Calls.book(x, "11x1"), -100);
        C.due("none more", Calls.book(x, ""), -100);
        C.due("told(0)", x.told(0), 6);
    }

    private static void bookWidths() {
        C.part("promise 31, widths had already");
        RollCutter x = Calls.withBook("20x5;30x5");
        C.due("30x1", Calls.book(x, "30x1"), -100);
        C.due("25x1;20", Calls.book(x, "25x1;20"), -105);
        C.due("25x1;26x1;25x1", Calls.book(x, "25x1;26x1;25x1"), -110);
        x.drop();
        C.due("30x1 when it is gone", Calls.book(x, "30x1"), 1);
    }

    private static void bookFollowsTheSize() {
        C.part("promise 31, the size");
        RollCutter x = new RollCutter();
        x.machine(0, 33);
        C.due("34x1", Calls.book(x, "34x1"), -100);
        C.due("20x1;34x1", Calls.book(x, "20x1;34x1"), -105);
        C.due("33x1", Calls.book(x, "33x1"), 1);
    }

    /** The plan 1x2a;2x3b;1x5c;1x1a2c;1x2c, with waste 0, 0, 0, 6, 36. */
    private static RollCutter five() {
        return Calls.withBook("30x3;20x6;12x9");
    }

    private static void so(String text, int many, int first) {
        RollCutter x = five();
        C.due("pick " + text, Calls.pick(x, text), many);
        C.due("told(7) behind it", x.told(7), 0);
        C.due("first " + text, Calls.first(x, text), first);
        C.due("told(7) behind it", x.told(7), 0);
    }

    private static void pickAndFirst() {
        C.part("promises 32 and 33");
        so("used=60", 3, 0);
        so("used<60", 2, 3);
        so("used>99", 0, -5);
        so("used>53", 4, 0);
        so("used<54", 1, 4);
        so("waste=6", 1, 3);
        so("waste>5", 2, 3);
        so("waste>6", 1, 4);
        so("waste<6", 3, 0);
        so("times=2", 1, 1);
        so("times>1", 1, 1);
        so("times<2", 4, 0);
        so("pieces=3", 2, 1);
        so("pieces<3", 2, 0);
        so("full=1", 4, 0);
        so("full=0", 1, 4);
        so("a>0", 2, 0);
        so("a=1", 1, 3);
        so("b=03", 1, 1);
        so("c>1", 3, 2);
        so("c=5", 1, 2);
        so("d=0", 5, 0);
        so("f=0", 5, 0);
        so("e>0", 0, -5);
        so("a=00", 3, 1);
        C.part("promises 32 and 33, no cuts");
        RollCutter x = new RollCutter();
        C.due("pick a=0", Calls.pick(x, "a=0"), 0);
        C.due("first a=0", Calls.first(x, "a=0"), -5);
        C.due("pick of nothing", x.pick(), -100);
        C.due("first of nothing", x.first(), -100);
    }

    private static void conditionsJoined() {
        C.part("promises 32 and 33, joined");
        so("a>0&c>0", 1, 3);
        so("a>0|c>0", 4, 0);
        so("b>0|a>0&c>0", 2, 1);
        so("a>0&c>0|b>0", 2, 1);
        so("(b>0|a>0)&c>0", 1, 3);
        so("c>0&(b>0|a>0)", 1, 3);
        so("a=9|a=8|a=2", 1, 0);
        so("a=9|a=2|a=8", 1, 0);
        so("c>0&c>1&c>2", 1, 2);
        so("c>2&c>1&c>0", 1, 2);
        so("c>0&c>9|c>0&a>0", 1, 3);
        so("used=60&full=1&times=1&c=5", 1, 2);
    }

    private static void conditionsNested() {
        C.part("promises 32 and 33, nested");
        so("!a>0", 3, 1);
        so("!!a>0", 2, 0);
        so("!a>0&c>0", 2, 2);
        so("c>0&!a>0", 2, 2);
        so("!(a>0&c>0)", 4, 0);
        so("!(a>0|c>0)", 1, 1);
        so("((((a>0))))", 2, 0);
        so("!!!!a>0", 2, 0);
        so("!(!(a>0))", 2, 0);
        so("!!!(a>0)", 3, 1);
        so("(((!a>0)))", 3, 1);
        so("((((a>0))))&((((c>0))))|!!!!b>0", 2, 1);
        so("(a>0)&(c>0)", 1, 3);
    }

    private static void conditionFault(String text, int fault) {
        RollCutter x = five();
        C.due("pick " + text, Calls.pick(x, text), -100 - fault);
        C.due("told(7) behind it", x.told(7), 0);
        C.due("first " + text, Calls.first(x, text), -100 - fault);
        C.due("told(7) behind it", x.told(7), 0);
    }

    private static void conditionFaults() {
        C.part("promises 32 and 33, faults");
        conditionFault("", 0);
        conditionFault("g=0", 0);
        conditionFault("z=0", 0);
        conditionFault("A=0", 0);
        conditionFault("use=0", 0);
        conditionFault("useds=0", 0);
        conditionFault("uses=0", 0);
        conditionFault("wast", 0);
        conditionFault("aa=0", 0);
        conditionFault("usedz=0", 0);
        conditionFault("az=0", 0);
        conditionFault("zused=0", 0);
        conditionFault("bsed=0", 0);
        conditionFault("taste=0", 0);
        conditionFault("wimes=0", 0);
        conditionFault("wieces=0", 0);
        conditionFault("bull=0", 0);
        conditionFault("=0", 0);
        conditionFault("5=a", 0);
        conditionFault(" a=0", 0);
        conditionFault("`=0", 0);
        conditionFault("{=0", 0);
        conditionFault("a", 1);
        conditionFault("used", 4);
        conditionFault("a!0", 1);
        conditionFault("a =0", 1);
        conditionFault("a=", 2);
        conditionFault("a==0", 2);
        conditionFault("a=b", 2);
        conditionFault("a>=0", 2);
        conditionFault("a=100", 4);
        conditionFault("a=000", 4);
        conditionFault("a=0)", 3);
        conditionFault("a=0;", 3);
        conditionFault("a=0b", 3);
        conditionFault("a=0&", 4);
        conditionFault("a=0|", 4);
        conditionFault("a=0&&b=0", 4);
        conditionFault("a=0|g=0", 4);
        conditionFault("a=0&(b=0", 8);
        conditionFault("(a=0", 4);
        conditionFault("(a=0b", 4);
        conditionFault("(a=0;", 4);
        conditionFault("()", 1);
        conditionFault("(", 1);
        conditionFault("!", 1);
        conditionFault("!)", 1);
        conditionFault("a=0!", 3);
        conditionFault("a=0(b=0)", 3);
        conditionFault("(((((a=0)))))", 4);
        conditionFault("!!!!!a=0", 4);
        conditionFault("!!!!(a=0)", 4);
        conditionFault("((((!a=0))))", 4);
        conditionFault("!(!(!a=0))", 4);
        conditionFault("!(!((a=0)))", 4);
        conditionFault("(!a=0&(!(!b=0)))", 8 + 1);
        conditionFault("((((a=0)))", 10);
        conditionFault("((((a=0)))))", 11);
        conditionFault("((((", 4);
        conditionFault("(((((", 4);
    }

    /** Words beside one another, and the longest text. */
    private static void conditionAllWords() {
        C.part("promises 32 and 33, the longest text");
        String most = "pieces>0&".repeat(9) + "times>00";
        so(most.substring(0, 89), 5, 0);
        so("a=2|" + "a=9|".repeat(20) + "b=3", 2, 0);
        RollCutter x = five();
        Calls.feed(x, "a=2|" + "a=9|".repeat(20) + "b=3|a=");
        C.due("told(7), the tape is full", x.told(7), 90);
        C.due("pick, cut off", x.pick(), -100 - 90);
        C.due("pick, a word at the end", Calls.pick(five(), "a=2|".repeat(21) + "a=02|b"), -100 - 90);
        C.due("pick, a longer one", Calls.pick(five(), "a=2|".repeat(21) + "a|used"), -100 - 85);
        C.due("pick, a word at the end", Calls.pick(five(), "a=2|".repeat(20) + "a=02|&used"), -100 - 85);
        C.due("pick, a word at the end", Calls.pick(five(), "a=2|".repeat(20) + "a=02&(used"), -100 - 90);
        C.due("pick, no word at the end", Calls.pick(five(), "a=2|".repeat(20) + "a=02&(usee"), -100 - 86);
        C.due("pick, nothing but a letter", Calls.pick(five(), "a".repeat(90)), -100);
    }

    private static void judge() {
        C.part("promise 34");
        RollCutter x = Calls.withBook("30x3;20x6;12x9");
        C.due("the plan", Calls.judge(x, "1x2a;2x3b;1x5c;1x1a2c;1x2c"), 1006);
        C.due("another way", Calls.judge(x, "3x1a1b;1x3b;9x1c"), 1013);
        C.due("a cut twice", Calls.judge(x, "1x1a1b;2x1a1b;1x3b;9x1c"), 1013);
        C.due("01 as 1", Calls.judge(x, "03x01a1b;01x03b;09x1c"), 1013);
        C.due("fewer a", Calls.judge(x, "2x1a1b"), 100);
        C.due("more a", Calls.judge(x, "4x1a1b"), 200);
        C.due("fewer b", Calls.judge(x, "3x1a1b"), 101);
        C.due("more b", Calls.judge(x, "3x1a1b;2x3b"), 201);
        C.due("fewer c", Calls.judge(x, "3x1a1b;1x3b;8x1c"), 102);
        C.due("more c", Calls.judge(x, "3x1a1b;1x3b;99x1c"), 202);
        x.due(1, 0);
        C.due("some b, none due", Calls.judge(x, "3x1a1b;9x1c"), 201);
        C.due("without b", Calls.judge(x, "3x1a;9x1c"), 1012);
        x.due(0, 0);
        x.due(2, 0);
        C.due("nothing due", Calls.judge(x, "1x1c"), 202);
        x = Calls.withBook("40x1;5x4;6x0");
        C.due("01 behind a letter", Calls.judge(x, "1x1a04b"), 1001);
        C.due("9 behind a letter", Calls.judge(x, "1x1a9b"), 0);
        C.due("9 behind a letter, no pattern", Calls.judge(x, "4x1b;1x1a9b"), 1);
    }

    private static void judgeNoPattern() {
        C.part("promise 34, no pattern");
        RollCutter x = Calls.withBook("30x3;20x6;12x9");
        C.due("3a", Calls.judge(x, "1x3a"), 0);
        C.due("behind a good one", Calls.judge(x, "9x1a;1x3a"), 1);
        C.due("the first of two", Calls.judge(x, "9x1a;1x1c;1x6c;1x3a"), 2);
        C.due("the first of all", Calls.judge(x, "1x6c;1x1c;1x3a"), 0);
        C.due("12c", Calls.judge(x, "1x12c"), 0);
        C.due("1a1b1c is 62", Calls.judge(x, "1x1a1b1c"), 0);
        C.due("5c is 60", Calls.judge(x, "1x5c"), 100);
        x.machine(1, 1);
        C.due("5c with kerf is 64", Calls.judge(x, "1x5c"), 0);
        C.due("4c with kerf is 51", Calls.judge(x, "1x4c"), 100);
        x.machine(1, 0);
        x.machine(2, 3);
        C.due("4c with three knives", Calls.judge(x, "1x4c"), 0);
        C.due("3c with three knives", Calls.judge(x, "1x3c"), 100);
        x = Calls.withBook("5x12;6x0;7x0;8x0;9x0;10x0");
        C.due("12a", Calls.judge(x, "1x12a"), 1001);
        C.due("all of all", Calls.judge(x, "1x1a;1x12a12b12c12d12e12f"), 1);
        String many = "1x1a;".repeat(17) + "1x1a";
        C.due("eighteen cuts", Calls.judge(x, many), 200);
        C.due("the last of eighteen", Calls.judge(x, "1x1a;".repeat(17) + "1x9f"), 17);
        x.due(0, 18);
        C.due("eighteen cuts and pieces", Calls.judge(x, many), 1018);
        x.due(5, 1);
        C.due("one of the last order is missing", Calls.judge(x, many), 105);
        x.due(0, 0);
        x.due(5, 0);
        C.due("99 of the last order", Calls.judge(x, "99x1f"), 205);
    }

    private static void judgeFault(String text, int fault) {
        RollCutter x = Calls.withBook("30x3;20x6;12x9");
        C.due("judge " + text, Calls.judge(x, text), -100 - fault);
        C.due("told(7) behind it", x.told(7), 0);
    }

    private static void judgeFaults() {
        C.part("promise 34, faults");
        judgeFault("", 0);
        judgeFault("0x1a", 0);
        judgeFault("00x1a", 0);
        judgeFault("0", 0);
        judgeFault("x1a", 0);
        judgeFault("a", 0);
        judgeFault("1", 1);
        judgeFault("1a", 1);
        judgeFault("100x1a", 2);
        judgeFault("1x", 2);
        judgeFault("1xa", 2);
        judgeFault("1x0a", 2);
        judgeFault("1x13a", 2);
        judgeFault("1x13", 2);
        judgeFault("1x99a", 2);
        judgeFault("1x123a", 4);
        judgeFault("1x1", 3);
        judgeFault("1x1;", 3);
        judgeFault("1x1x", 3);
        judgeFault("1x1d", 3);
        judgeFault("1x1f", 3);
        judgeFault("1x1A", 3);
        judgeFault("1x1{", 3);
        judgeFault("1x1`", 3);
        judgeFault("1x1a1a", 5);
        judgeFault("1x1b1a", 5);
        judgeFault("1x1a1c1b", 7);
        judgeFault("1x1c1", 5);
        judgeFault("1x1c1a", 5);
        judgeFault("1x1a0b", 4);
        judgeFault("1x1a13b", 4);
        judgeFault("1x1ab", 4);
        judgeFault("1x1a:", 4);
        judgeFault("1x1a,1x1a", 4);
        judgeFault("1x1a;", 5);
        judgeFault("1x1a;;", 5);
        judgeFault("1x1a;1x3a;0x1a", 10);
        judgeFault("1x1a;1x1d", 8);
        judgeFault(" 1x1a", 0);
        RollCutter x = new RollCutter();
        C.due("judge of no orders", Calls.judge(x, "1x1a"), -103);
    }

    private static void paper(RollCutter x, String due) {
        for (int i = 0; i < due.length(); i++) {
            C.due("paper(" + i + ") of " + due, x.paper(i), due.charAt(i));
        }
        C.due("paper(" + due.length() + ") of " + due, x.paper(due.length()), -1);
        C.due("told(8)", x.told(8), due.length());
    }

    private static void spell() {
        C.part("promises 35 and 36");
        RollCutter x = new RollCutter();
        C.due("paper(0)", x.paper(0), -1);
        C.due("spell() of nothing", x.spell(), 0);
        paper(x, "");
        x.order(5, 40);
        x.order(60, 11);
        C.due("paper(0), not spelled yet", x.paper(0), -1);
        C.due("spell()", x.spell(), 16);
        paper(x, "3x12a;11x1b;1x4a");
        C.due("paper(-1)", x.paper(-1), -1);
        C.due("paper(max)", x.paper(Integer.MAX_VALUE), -1);
        C.due("paper(min)", x.paper(Integer.MIN_VALUE), -1);
        x.due(0, 0);
        x.due(1, 10);
        paper(x, "3x12a;11x1b;1x4a");
        C.due("spell() again", x.spell(), 5);
        paper(x, "10x1b");
        x.carry();
        x.image();
        x.undo();
        paper(x, "10x1b");
        C.due("spell() of nothing due", x.spell(), 0);
        paper(x, "");
        x = Calls.withBook("22x20;17x31;9x40;13x0");
        C.due("spell() of five cuts", x.spell(), 35);
        paper(x, "7x2a1c;10x3b1c;5x1a4c;1x1a1b2c;1x1c");
    }

    private static void tapeIsEmptyBehindEach() {
        C.part("promises 31 to 34, the tape is empty behind each");
        RollCutter x = Calls.withBook("30x3;20x6");
        C.due("told(7) behind a book", x.told(7), 0);
        Calls.pick(x, "a>0");
        C.due("told(7) behind a pick", x.told(7), 0);
        Calls.first(x, "a>0");
        C.due("told(7) behind a first", x.told(7), 0);
        Calls.judge(x, "1x1a");
        C.due("told(7) behind a judgement", x.told(7), 0);
        Calls.feed(x, "12");
        x.spell();
        x.carry();
        C.due("told(7) else", x.told(7), 2);
    }
}
