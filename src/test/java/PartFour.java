/** Part 4 of the document's terms: the tape, books, told plans, conditions, the paper, the image. */
final class PartFour {
    private static final Check C = Doc.C;

    private PartFour() {
    }

    static void all() {
        tape();
        numbers();
        noBlanksNoCommas();
        book();
        toldPlan();
        toldPlanLetters();
        condition();
        conditionSigns();
        words();
        wordsOfOrders();
        within();
        withinCounted();
        judged();
        judgedByDue();
        spelled();
        paper();
        image();
        imageStays();
    }

    /** The plan 1x2a;2x3b;1x5c;1x1a2c;1x2c, with waste 0, 0, 0, 6, 36. */
    private static RollCutter five() {
        return Calls.withBook("30x3;20x6;12x9");
    }

    private static void so(String text, int many, int first) {
        C.due("pick " + text, Calls.pick(five(), text), many);
        C.due("first " + text, Calls.first(five(), text), first);
    }

    private static void fault(String text, int place) {
        so(text, -100 - place, -100 - place);
    }

    private static void tape() {
        Doc.says("4", "THE TAPE holds 0 .. 90 bytes.");
        RollCutter x = new RollCutter();
        C.due("told(7) at first", x.told(7), 0);
        C.due("clear() of none", x.clear(), 0);
        for (int k = 1; k <= 90; k++) {
            C.due("byte " + k, x.feed(k), k);
        }
        C.due("one more", x.feed(91), -4);
        C.due("told(7)", x.told(7), 90);
        C.due("clear()", x.clear(), 90);
        C.due("told(7)", x.told(7), 0);
        C.due("feed(91)", x.feed(91), 1);
        String most = "times=1|".repeat(10);
        C.due("a condition of 90 bytes", Calls.pick(five(), most + "used>9&b=3"), 5);
        C.due("90 bytes that end too early", Calls.pick(five(), most + "used=60|b<"), -190);
        C.due("89 bytes that end too early", Calls.pick(five(), most + "times=02&"), -189);
        C.due("a word of the last two of 90 bytes", Calls.pick(five(), most + "used=60|bb"), -188);
        C.due("a word at the end of 90 bytes", Calls.pick(five(), most + "(b>0&!used"), -190);
        C.due("no word at the end of 90 bytes", Calls.pick(five(), most + "(b>0&!usee"), -186);
    }

    private static void numbers() {
        Doc.says("4", "A number is as many figures as stand there, 2 at most.");
        RollCutter x = Calls.withBook("05x0;06x00;7x07;60x40");
        C.due("orders", x.told(0), 4);
        C.due("of(0, 0)", x.of(0, 0), 5);
        C.due("of(2, 1)", x.of(2, 1), 7);
        C.due("of(3, 1)", x.of(3, 1), 40);
        C.due("three figures: the third is at fault", Calls.book(x, "100x1"), -102);
        C.due("three figures of a width", Calls.book(x, "020x1"), -100);
        C.due("three figures of a due", Calls.book(x, "20x010"), -105);
        C.due("figures of times", Calls.judge(x, "010x1a"), -102);
        C.due("figures of pieces", Calls.judge(x, "1x012a"), -104);
        C.due("01 and 01", Calls.judge(x, "01x01a"), 200);
        C.due("04 behind a letter", Calls.judge(x, "1x1a04b"), 200);
        C.due("9 behind a letter: 5 and 9 of 6", Calls.judge(x, "1x1a9b"), 200);
        C.due("the byte ahead of 0", Calls.judge(x, "1x1a/b"), -104);
        C.due("the byte behind 9", Calls.judge(x, "1x1a:b"), -104);
        C.due("the byte ahead of 0", Calls.book(x, "9/x1"), -101);
        C.due("the byte behind 9", Calls.book(x, "9:x1"), -101);
        C.due("the byte behind 9 first", Calls.book(x, ":x1"), -100);
        so("used=060", -107, -107);
        so("a=02", 1, 0);
        so("a=002", -104, -104);
        so("used>99", 0, -5);
        so("used<99", 5, 0);
        so("used>100", -107, -107);
        so("used>00", 5, 0);
    }

    private static void noBlanksNoCommas() {
        Doc.says("4", "(No blanks, no commas in a text.)");
        RollCutter x = new RollCutter();
        C.due("a blank ahead", Calls.book(x, " 20x5"), -100);
        C.due("a blank behind a number", Calls.book(x, "20 x5"), -102);
        C.due("a blank behind x", Calls.book(x, "20x 5"), -103);
        C.due("a blank at the end", Calls.book(x, "20x5 "), -104);
        C.due("a comma", Calls.book(x, "20x5,30x1"), -104);
        C.due("a comma behind ;", Calls.book(x, "20x5;,30x1"), -105);
        C.due("orders", x.told(0), 0);
        x.order(20, 2);
        C.due("a blank in a told plan", Calls.judge(x, "1x1a ;1x1a"), -104);
        C.due("a comma in a told plan", Calls.judge(x, "1x1a,1x1a"), -104);
        fault("a =0", 1);
        fault(" a=0", 0);
        fault("a= 0", 2);
        fault("a=0 &b=0", 3);
        fault("a=0& b=0", 4);
        fault("(a=0 )", 4);
        fault("a=0,b=0", 3);
        fault("a=0\t", 3);
    }

    private static void book() {
        Doc.says("4", "A BOOK: ORDERS, one or more, parted by ; : WIDTH, x, DUE (as 20x5).");
        RollCutter x = new RollCutter();
        C.due("none", Calls.book(x, ""), -100);
        C.due("one", Calls.book(x, "20x5"), 1);
        C.due("of(0, 0)", x.of(0, 0), 20);
        C.due("of(0, 1)", x.of(0, 1), 5);
        C.due("two", Calls.book(x, "30x0;60x40"), 2);
        C.due("of(1, 0)", x.of(1, 0), 30);
        C.due("of(2, 1)", x.of(2, 1), 40);
        C.due("three", Calls.book(x, "5x1;6x2;7x3"), 3);
        C.due("of(5, 0)", x.of(5, 0), 7);
        C.due("six", Calls.book(new RollCutter(), "05x40;06x40;07x40;08x40;09x40;10x40"), 6);
        C.due("; behind the last", Calls.book(new RollCutter(), "20x5;"), -105);
        C.due("; ahead of the first", Calls.book(new RollCutter(), ";20x5"), -100);
        C.due("; twice", Calls.book(new RollCutter(), "20x5;;30x5"), -105);
        C.due("no x", Calls.book(new RollCutter(), "20:5"), -102);
        C.due("no width", Calls.book(new RollCutter(), "x5"), -100);
        C.due("no due", Calls.book(new RollCutter(), "20x;30x5"), -103);
        x = new RollCutter();
        x.machine(0, 30);
        C.due("as wide as SIZE", Calls.book(x, "30x1"), 1);
        C.due("above SIZE", Calls.book(x, "31x1"), -100);
    }

    private static void toldPlan() {
        Doc.says("4", "A TOLD PLAN: CUTS, one or more, parted by ; : TIMES (1 .. 99), x, and one or more of: a number (1 .. 12)");
        RollCutter x = Calls.withBook("5x12;60x2");
        C.due("none", Calls.judge(x, ""), -100);
        C.due("one", Calls.judge(x, "1x12a"), 101);
        C.due("two", Calls.judge(x, "1x12a;2x1b"), 1003);
        C.due("three", Calls.judge(x, "1x12a;1x1b;1x1b"), 1003);
        C.due("; behind the last", Calls.judge(x, "1x12a;"), -106);
        C.due("; ahead of the first", Calls.judge(x, ";1x12a"), -100);
        C.due("times 0", Calls.judge(x, "0x12a"), -100);
        C.due("times 00", Calls.judge(x, "00x12a"), -100);
        C.due("times 1", Calls.judge(x, "1x1b"), 100);
        C.due("times 99", Calls.judge(x, "99x1a"), 200);
        C.due("times 100", Calls.judge(x, "100x1a"), -102);
        C.due("no times", Calls.judge(x, "x1a"), -100);
        C.due("no pieces", Calls.judge(x, "1x"), -102);
        C.due("no pieces, another cut", Calls.judge(x, "1x;1x1a"), -102);
        C.due("0 pieces", Calls.judge(x, "1x0a"), -102);
        C.due("1 piece", Calls.judge(x, "1x1a"), 100);
        C.due("12 pieces", Calls.judge(x, "1x12a"), 101);
        C.due("13 pieces", Calls.judge(x, "1x13a"), -102);
        C.due("a letter alone", Calls.judge(x, "1xa"), -102);
        x.due(0, 18);
        x.due(1, 0);
        C.due("eighteen cuts in 89 bytes", Calls.judge(x, "1x1a;".repeat(17) + "1x1a"), 1018);
    }

    private static void toldPlanLetters() {
        Doc.says("4", "and the letter of an ORDER, the letters ahead of each other as in the alphabet.");
        RollCutter x = Calls.withBook("5x1;6x1;7x1;8x1;9x1;10x1");
        C.due("all six", Calls.judge(x, "1x1a1b1c1d1e1f"), 1001);
        C.due("the first and the last", Calls.judge(x, "1x1a1f"), 101);
        C.due("the last alone", Calls.judge(x, "1x1f"), 100);
        C.due("one behind the last", Calls.judge(x, "1x1g"), -103);
        C.due("the same twice", Calls.judge(x, "1x1a1a"), -105);
        C.due("the last one twice", Calls.judge(x, "1x1f1f"), -105);
        C.due("one ahead", Calls.judge(x, "1x1b1a"), -105);
        C.due("one ahead, behind others", Calls.judge(x, "1x1a1c1b"), -107);
        C.due("in the next cut they begin anew", Calls.judge(x, "1x1b1c1d1e1f;1x1a"), 1002);
        C.due("a capital", Calls.judge(x, "1x1A"), -103);
        C.due("the byte ahead of a", Calls.judge(x, "1x1`"), -103);
        C.due("two letters", Calls.judge(x, "1x1ab"), -104);
        x.drop();
        C.due("one that went", Calls.judge(x, "1x1a1f"), -105);
        C.due("the last then", Calls.judge(x, "1x1a1b1c1d1e"), 1001);
        C.due("of no orders", Calls.judge(new RollCutter(), "1x1a"), -103);
    }

    private static void condition() {
        Doc.says("4", "A CONDITION: E: T or E|T. T: F or T&F. F: !F, (E), or a WORD,");
        so("a>0", 2, 0);
        so("!a>0", 3, 1);
        so("!!a>0", 2, 0);
        so("(a>0)", 2, 0);
        so("a>0|b>0", 3, 0);
        so("a>0&c>0", 1, 3);
        // & goes ahead of |, ! ahead of &
        so("b>0|a>0&c>0", 2, 1);
        so("c>0&a>0|b>0", 2, 1);
        so("(b>0|a>0)&c>0", 1, 3);
        so("!a>0&c>0", 2, 2);
        so("!(a>0&c>0)", 4, 0);
        so("a=2|a=9|a=9|a=9", 1, 0);
        so("a=9|a=9|a=9|a=2", 1, 0);
        so("c>0&c>0&c>0&c=5", 1, 2);
        so("c=5&c>0&c>0&c>0", 1, 2);
        fault("", 0);
        fault("()", 1);
        fault("!", 1);
        fault("(a>0", 4);
        fault("a>0)", 3);
        fault("a>0|", 4);
        fault("|a>0", 0);
        fault("a>0&", 4);
        fault("a>0||b>0", 4);
        fault("a>0|&b>0", 4);
        fault("a>0!b>0", 3);
        fault("a>0(b>0)", 3);
        fault("(a>0)(b>0)", 5);
        fault("(a>0)b>0", 5);
    }

    private static void conditionSigns() {
        Doc.says("4", "< or = or >, a number.");
        so("c<5", 4, 0);
        so("c=5", 1, 2);
        so("c>5", 0, -5);
        so("c<2", 2, 0);
        so("c>2", 1, 2);
        so("c=2", 2, 3);
        so("used<60", 2, 3);
        so("used>53", 4, 0);
        so("used>54", 3, 0);
        so("a<0", 0, -5);
        so("a<1", 3, 1);
        fault("a", 1);
        fault("a0", 1);
        fault("a!0", 1);
        fault("a?0", 1);
        fault("a;0", 1);
        fault("a=", 2);
        fault("a<=0", 2);
        fault("a==0", 2);
        fault("a<>0", 2);
        fault("a=b", 2);
        fault("a=-1", 2);
        fault("0=a", 0);
    }

    private static void words() {
        Doc.says("4", "WORDS (as many of a .. z as stand there): used, waste, times, pieces (how many in all), full (1 if it is FULL UP, else 0),");
        so("used=60", 3, 0);
        so("used=24", 1, 4);
        so("waste=0", 3, 0);
        so("waste=6", 1, 3);
        so("waste>35", 1, 4);
        so("waste>36", 0, -5);
        so("times=2", 1, 1);
        so("times=1", 4, 0);
        so("pieces=2", 2, 0);
        so("pieces=5", 1, 2);
        so("pieces=1", 0, -5);
        so("full=1", 4, 0);
        so("full=0", 1, 4);
        so("full>1", 0, -5);
        fault("use=60", 0);
        fault("useds=60", 0);
        fault("usedwaste=60", 0);
        fault("Used=60", 0);
        fault("uSed=60", 0);
        fault("wast=0", 0);
        fault("wastes=0", 0);
        fault("time=1", 0);
        fault("piece=1", 0);
        fault("ful=1", 0);
        fault("fulla=1", 0);
        fault("afull=1", 0);
        fault("=1", 0);
        fault("vsed=60", 0);
        fault("xaste=0", 0);
        fault("uimes=1", 0);
        fault("qieces=1", 0);
        fault("gull=1", 0);
        fault("usee=60", 0);
        // as many of a .. z as stand there, and no other byte
        fault("a{=0", 1);
        fault("a`=0", 1);
        fault("aA=0", 1);
        fault("a1=0", 1);
        fault("used{", 4);
        fault("az=0", 0);
        fault("za=0", 0);
    }

    private static void wordsOfOrders() {
        Doc.says("4", "a .. f (pieces of an ORDER; 0, if there is no such one).");
        so("a=2", 1, 0);
        so("b=3", 1, 1);
        so("c=5", 1, 2);
        so("d=0", 5, 0);
        so("e=0", 5, 0);
        so("f=0", 5, 0);
        so("f>0", 0, -5);
        fault("g=0", 0);
        fault("z=0", 0);
        fault("aa=0", 0);
        fault("ab=0", 0);
        RollCutter x = Calls.withBook("5x1;6x1;7x1;8x1;9x1;10x1");
        C.due("six orders", Calls.pick(x, "a=1&b=1&c=1&d=1&e=1&f=1"), 1);
        x.drop();
        C.due("the last one went", Calls.pick(x, "f=0"), 1);
        C.due("of no orders", Calls.pick(new RollCutter(), "a=0"), 0);
        C.due("the first of no cuts", Calls.first(new RollCutter(), "a=0"), -5);
    }

    private static void within() {
        Doc.says("4", "A ( or ! within 4 others of these is none.");
        so("((((a>0))))", 2, 0);
        so("!!!!a>0", 2, 0);
        so("!(!(a>0))", 2, 0);
        so("(!(!a>0))", 2, 0);
        so("(((!a>0)))", 3, 1);
        so("!!!(a>0)", 3, 1);
        so("(!!!a>0)", 3, 1);
        fault("(((((a>0)))))", 4);
        fault("!!!!!a>0", 4);
        fault("!!!!(a>0)", 4);
        fault("((((!a>0))))", 4);
        fault("!(!(!a>0))", 4);
        fault("!(!((a>0)))", 4);
        fault("(((!(a>0))))", 4);
        fault("(((((", 4);
        fault("((((", 4);
        fault("!!!!", 4);
        fault("!!!!!", 4);
    }

    /** What is closed, or stands beside, isn't around. */
    private static void withinCounted() {
        C.part("DOC 4, which ( and ! are around");
        so("((((a>0))))|((((b>0))))", 3, 0);
        so("!!!!a>0&!!!!c>0", 1, 3);
        so("(((a>0)|(b>0)))", 3, 0);
        so("((((a>0)|(b>0))))", 3, 0);
        so("(a>0)|(b>0)|(c>0)|(a>0)|(b>0)|(c>0)", 5, 0);
        so("!a>0|!b>0|!c>0|!a>0|!b>0|!c>0", 5, 0);
        so("(!a>0&(!b>0&(c>0)))", 2, 2);
        fault("(!a>0&(!b>0&(!(c>0))))", 14);
        fault("((((a>0|(b>0)))))", 8);
        fault("((((a>0))))|(((((a>0)))))", 16);
        fault("!!!!a>0&!!!!!c>0", 12);
        fault("((((a>0&!b>0))))", 8);
    }

    private static void judged() {
        Doc.says("4", "JUDGED, a TOLD PLAN: the first of its CUTS that is no PATTERN;");
        RollCutter x = five();
        C.due("the first", Calls.judge(x, "1x3a"), 0);
        C.due("the second", Calls.judge(x, "9x1a;1x3a"), 1);
        C.due("the first of two", Calls.judge(x, "1x1c;1x6c;1x3a"), 1);
        C.due("the first of several", Calls.judge(x, "1x3a;1x1c;1x6c"), 0);
        C.due("ahead of what is due", Calls.judge(x, "99x1a;99x1b;1x6c"), 2);
        C.due("60 of 60", Calls.judge(x, "1x2a;1x3b;1x5c"), 100);
        C.due("62 of 60", Calls.judge(x, "1x1a1b1c"), 0);
        C.due("a fault behind it goes ahead", Calls.judge(x, "1x3a;0x1a"), -105);
        C.due("a letter behind it goes ahead", Calls.judge(x, "1x3a;1x1d"), -108);
        x.machine(2, 4);
        C.due("more than the knives cut", Calls.judge(x, "1x5c"), 0);
        C.due("as many as they cut", Calls.judge(x, "1x4c"), 100);
        x.machine(1, 1);
        C.due("30, 1, 30 are 61", Calls.judge(x, "1x2a"), 0);
        x = Calls.withBook("5x18");
        C.due("the last of eighteen", Calls.judge(x, "1x1a;".repeat(17) + "9x12a"), 200);
        x.machine(2, 11);
        C.due("the last of eighteen", Calls.judge(x, "1x1a;".repeat(17) + "9x12a"), 17);
        x = Calls.withBook("5x0;6x0;7x0;8x0;9x0;10x0");
        C.due("the most pieces that can be told", Calls.judge(x, "99x12a12b12c12d12e12f"), 0);
    }

    private static void judgedByDue() {
        Doc.says("4", "if there is none, of the first ORDER of which not just as many are cut as are DUE: 100 and its number, if fewer are, 200 and it, if more; else 1000 and how many ROLLS it has.");
        RollCutter x = five();
        C.due("the plan", Calls.judge(x, "1x2a;2x3b;1x5c;1x1a2c;1x2c"), 1006);
        C.due("one fewer a", Calls.judge(x, "1x2a;2x3b"), 100);
        C.due("one more a", Calls.judge(x, "2x2a;2x3b"), 200);
        C.due("one fewer b", Calls.judge(x, "3x1a;5x1b"), 101);
        C.due("one more b", Calls.judge(x, "3x1a;7x1b"), 201);
        C.due("one fewer c", Calls.judge(x, "3x1a;6x1b;8x1c"), 102);
        C.due("one more c", Calls.judge(x, "3x1a;6x1b;10x1c"), 202);
        C.due("just as many, one by one", Calls.judge(x, "3x1a;6x1b;9x1c"), 1018);
        C.due("the first of several", Calls.judge(x, "3x1a;7x1b;8x1c"), 201);
        x.due(0, 0);
        C.due("some of which none is due", Calls.judge(x, "1x1a;6x1b;9x1c"), 200);
        C.due("none of which none is due", Calls.judge(x, "6x1b;9x1c"), 1015);
        x = Calls.withBook("5x0;6x0;7x0;8x0;9x0;10x1");
        C.due("the last order: more", Calls.judge(x, "2x1f"), 205);
        C.due("the last order: just as many", Calls.judge(x, "1x1f"), 1001);
        x.due(4, 1);
        C.due("the last but one: fewer", Calls.judge(x, "1x1f"), 104);
        x.due(4, 0);
        x.due(5, 40);
        C.due("forty", Calls.judge(x, "40x1f"), 1040);
        C.due("more than can be due", Calls.judge(x, "99x6f"), 205);
    }

    private static void spelled() {
        Doc.says("4", "SPELLED: THE PLAN as a TOLD PLAN (numbers as short as can be; nothing for no CUTS; a CUT of more than 99 TIMES as it is).");
        spells("20x0", "");
        spells("20x7", "2x3a;1x1a");
        spells("5x40", "3x12a;1x4a");
        spells("5x40;60x11", "3x12a;11x1b;1x4a");
        // no more than 40 times can come to be
        spells("60x40;59x40;31x10", "40x1a;40x1b;10x1c");
        spells("60x0;59x0;58x0;57x0;56x0;55x9", "9x1f");
        spells("31x10;6x1;11x6", "7x1a;2x1a2c;1x1a1b2c");
        RollCutter x = Calls.withBook("30x3;20x6;12x9");
        C.due("it is judged to be a plan", Calls.judge(x, Calls.spelled(x)), 1006);
    }

    private static void spells(String book, String due) {
        RollCutter x = Calls.withBook(book);
        C.due("spell() of " + book, x.spell(), due.length());
        for (int i = 0; i < due.length(); i++) {
            C.due("paper(" + i + ") of " + book, x.paper(i), due.charAt(i));
        }
        C.due("paper behind the last of " + book, x.paper(due.length()), -1);
    }

    private static void paper() {
        Doc.says("4", "THE PAPER holds the latest one (nothing at first).");
        RollCutter x = new RollCutter();
        C.due("told(8) at first", x.told(8), 0);
        C.due("paper(0) at first", x.paper(0), -1);
        Calls.book(x, "20x7");
        C.due("not spelled yet", x.told(8), 0);
        C.due("spell()", x.spell(), 9);
        C.due("paper(8)", x.paper(8), 'a');
        x.due(0, 3);
        C.due("the latest one still", x.told(8), 9);
        C.due("paper(8)", x.paper(8), 'a');
        C.due("spell(), a shorter one", x.spell(), 4);
        C.due("paper(0)", x.paper(0), '1');
        C.due("paper(3)", x.paper(3), 'a');
        C.due("paper(4), which was longer", x.paper(4), -1);
        x.carry();
        C.due("told(8) behind carry()", x.told(8), 4);
        C.due("spell() of no cuts", x.spell(), 0);
        C.due("told(8)", x.told(8), 0);
        C.due("paper(0)", x.paper(0), -1);
        x = new RollCutter();
        x.machine(0, 53);
        x.machine(2, 8);
        Calls.book(x, "11x9;5x30;12x24;15x12;13x33;6x35");
        String due = "5x3b1c2e;3x2b1e5f;2x1b4c;2x1b1c2d1f;6x1c1d2e;4x2a1e3f;1x1a3b1c1d;1x2b2c1e1f;1x1d2e2f;1x1e3f";
        C.due("a long one", x.spell(), due.length());
        for (int i = 0; i < due.length(); i++) {
            C.due("paper(" + i + ")", x.paper(i), due.charAt(i));
        }
    }

    private static void image() {
        Doc.says("4", "THE IMAGE: ORDERS, SIZE, KERF, KNIVES, KEEP, THE STORE");
        RollCutter x = Calls.withBook("40x3;20x5");
        x.machine(0, 59);
        x.machine(1, 1);
        x.machine(2, 9);
        x.machine(3, 4);
        x.put(7);
        x.put(60);
        x.image();
        String was = Whole.of(x);
        RollCutter y = Calls.withBook("40x3;20x5");
        y.machine(0, 59);
        y.machine(1, 1);
        y.machine(2, 9);
        y.machine(3, 4);
        y.put(7);
        y.put(60);
        y.image();
        y.due(0, 9);
        y.drop();
        y.order(13, 8);
        y.order(14, 8);
        y.machine(0, 58);
        y.machine(1, 2);
        y.machine(2, 2);
        y.machine(3, 5);
        y.put(7);
        y.put(1);
        y.serve();
        y.carry();
        C.due("undo()", y.undo(), 2);
        Whole.same("all is as the image", Whole.of(y), was);
    }

    private static void imageStays() {
        Doc.says("4", "(THE TAPE, THE PAPER stay by undo()).");
        RollCutter x = Calls.withBook("20x7");
        Calls.feed(x, "3");
        x.spell();
        x.image();
        Calls.feed(x, "0x");
        x.due(0, 3);
        x.spell();
        C.due("undo()", x.undo(), 1);
        C.due("of(0, 1)", x.of(0, 1), 7);
        C.due("bytes of the tape", x.told(7), 3);
        C.due("bytes of the paper", x.told(8), 4);
        C.due("paper(3)", x.paper(3), 'a');
        C.due("paper(4)", x.paper(4), -1);
        Calls.feed(x, "9");
        C.due("book() of 30x9", x.book(), 1);
        C.due("of(1, 0)", x.of(1, 0), 30);
        C.due("of(1, 1)", x.of(1, 1), 9);
        x.clear();
        C.due("undo(), the tape is empty", x.undo(), 1);
        C.due("told(7)", x.told(7), 0);
    }
}
