/** The boundary cases of THE TAPE and THE LAW in 'Terms': its grammar, its faults, its worth, and what a century does by it. */
final class LawEdges {
    private static final String DIGITS = "0123456789", NAMES = "bawnoy", AHEAD = "(!-", JOINS = "+-*/%&|", COMPARES = "<=>";

    private LawEdges() { }

    static void all() {
        lines();
        atMost120Bytes();
        line();
        levels();
        one();
        noBlanks();
        names();
        namesAtTheirEdges();
        namesOverAndOver();
        openAtOnce();
        ints();
        towardZero();
        onesAndZeros();
        whichLineCounts();
        faults();
        whichByteGoesOn();
        heldWithin();
        withoutAText();
        century();
        centuryStays();
    }

    private static void faultDue(String text, int place) {
        ToadWall x = Check.wall(7);
        Check.due("the text " + text, Check.law(x, text), place < 0 ? 1 : -100 - place);
        Check.due("the tape behind " + text, x.count(2), 0);
    }

    private static void fine(String... texts) {
        for (String text : texts) faultDue(text, -1);
    }

    /** Of block 1 of two: BED 5, AT 12, WORD 8, number 1, one is OPEN, CENTURY 40. */
    private static void worthDue(String text, int want) {
        ToadWall x = Check.at(Check.wall(0, 5), 0, 12);
        x.mend(12, 6, 8);
        x.mend(0, 3, 1);
        x.mend(0, 7, 40);
        Check.due(text + " is a law", Check.law(x, text), 1);
        Check.due(text, x.goes(1), want);
    }

    private static void lines() {
        Doc.terms("THE LAW is a TEXT by THE TAPE (at most 120 bytes): LINES, one or more, parted by ; .");
        faultDue("", 0);
        fine("1", "1;2", "1;2;3");
        faultDue(";", 0);
        faultDue("1;", 2);
        faultDue(";1", 0);
        faultDue("1;;1", 2);
        fine("1;".repeat(59) + "1");
        worthDue("0?1;".repeat(29) + "4", 4);
        faultDue("1;".repeat(60), 120);
    }

    private static void atMost120Bytes() {
        ToadWall x = Check.wall(0);
        String text = "0+".repeat(59) + "1";
        Check.due("119 bytes", Check.law(x, text), 1);
        Check.due("their worth", x.goes(0), 1);
        Check.due("120 bytes", Check.law(x, text + "2"), 1);
        Check.due("their worth", x.goes(0), 9);
        Check.due("of 121 the last does not come", Check.law(x, text + "+7"), -100 - 120);
        Check.due("the law stays", x.goes(0), 9);
        Check.due("of 125 the last five do not come", Check.law(x, "0+".repeat(58) + "3+01+999"), 1);
        Check.due("their worth", x.goes(0), 4);
    }

    private static void line() {
        Doc.terms("LINE: E, or E ? E (what counts if the first is not 0).");
        worthDue("3", 3);
        worthDue("1?4", 4);
        worthDue("0?4", 0);
        worthDue("9999?4", 4);
        worthDue("-1?4", 4);
        worthDue("1?0", 0);
        faultDue("?", 0);
        faultDue("?1", 0);
        faultDue("1?", 2);
        faultDue("1??", 2);
        faultDue("1?2?", 3);
        faultDue("1?2?3", 3);
        faultDue("1?;2", 2);
        faultDue("(1?2)", 2);
        faultDue("1?(2?3)", 4);
        fine("1?2;3?4", "1;2?3");
        faultDue("1;2?3?4", 5);
    }

    private static void levels() {
        Doc.terms("E = A { | A }. A = B { & B }. B = S, or S < S, S = S, S > S. S = P { + P, - P }. P = O { * O, / O, % O }.");
        fine("1|2", "1|2|3", "1&2", "1&2&3", "1<2", "1=2", "1>2", "1+2", "1-2", "1+2-3", "1*2", "1/2", "1%2", "1*2/3%4");
        for (char sign : "|&<=>+-*/%".toCharArray()) {
            faultDue("1" + sign, 2);
            faultDue("1" + sign + ")", 2);
            faultDue("(1" + sign + "1" + sign, sign == '<' || sign == '=' || sign == '>' ? 4 : 5);
            if (sign != '-') faultDue("" + sign, 0);
            if (sign != '-') faultDue("1" + sign + sign, 2);
        }
        // S < S stands alone: no second one, until | or & or a bracket.
        for (char one : COMPARES.toCharArray()) {
            for (char other : COMPARES.toCharArray()) {
                faultDue("1" + one + "2" + other + "3", 3);
                faultDue("1" + one + "2+3*4" + other + "3", 7);
                fine("1" + one + "2&3" + other + "4", "1" + one + "2|3" + other + "4", "(1" + one + "2)" + other + "3", "1" + one + "(2" + other + "3)");
            }
        }
        worthDue("1|0&0", 1);
        worthDue("(1|0)&0", 0);
        worthDue("2&1<0", 0);
        worthDue("1<0|2", 1);
        worthDue("3=1+2", 1);
        worthDue("1+2*3", 7);
        worthDue("9-3-2", 4);
        worthDue("9-(3-2)", 8);
        worthDue("8/4*2", 4);
        worthDue("8/(4*2)", 1);
        worthDue("9%5%3", 1);
        worthDue("7-8/3", 5);
        worthDue("1+9%5", 5);
    }

    private static void one() {
        Doc.terms("O = a number (1 to 4 digits), a NAME, ! O, - O, ( E ).");
        fine("0", "9", "00", "99", "000", "999", "0000", "9999");
        faultDue("00000", 4);
        faultDue("99999", 4);
        faultDue("1+12345", 6);
        faultDue("(12345)", 5);
        fine("1234+1234", "1234;1234", "1234?1234");
        worthDue("0009", 9);
        worthDue("9999=9999", 1);
        worthDue("9999-9998", 1);
        worthDue("1000-0999", 1);
        faultDue("1b", 1);
        faultDue("b1", 1);
        faultDue("bb", 1);
        faultDue("(1)1", 3);
        faultDue("(1)b", 3);
        faultDue("(1)(1)", 3);
        faultDue("1(", 1);
        faultDue("1!", 1);
        faultDue("!", 1);
        faultDue("-", 1);
        faultDue("(", 1);
        faultDue(")", 0);
        faultDue("()", 1);
        faultDue("(1", 2);
        faultDue("1)", 1);
        faultDue("(1))", 3);
        fine("!1", "-1", "(1)", "!b", "-b", "(b)", "!-1", "-!1", "--1", "!!1", "-(1)", "!(1)", "(-1)", "1--1", "1-!1", "1+-1", "1*-1", "1<-1");
        worthDue("!3+2", 2);
        worthDue("-3+9", 6);
        worthDue("-(3-9)", 6);
        worthDue("!(3-3)", 1);
        worthDue("2--3", 5);
        worthDue("-2*-3", 6);
        worthDue("!2=0", 1);
        worthDue("(((4)))", 4);
    }

    private static void noBlanks() {
        Doc.terms("No blanks.");
        for (char blank : new char[] {' ', '\t', '\n', '\r', 0, 160}) {
            faultDue(blank + "1", 0);
            faultDue("1" + blank, 1);
            faultDue("1" + blank + "+1", 1);
            faultDue("1+" + blank + "1", 2);
            faultDue("1;" + blank + "1", 2);
            faultDue("(" + blank + "1)", 1);
        }
    }

    private static void names() {
        Doc.terms("NAMES: b BED, a AT, w WORD of AT, n his number, o how many are OPEN, y CENTURY.");
        worthDue("b", 5);
        worthDue("a=12", 1);
        worthDue("w", 8);
        worthDue("n", 1);
        worthDue("o", 1);
        worthDue("y=40", 1);
        for (int c = 0; c < 256; c++) {
            boolean begins = (DIGITS + NAMES).indexOf(c) >= 0;
            faultDue("" + (char) c, begins ? -1 : AHEAD.indexOf(c) >= 0 ? 1 : 0);
        }
    }

    private static void namesAtTheirEdges() {
        ToadWall x = Check.wall(0, 0, 0, 0, 0, 0, 0, 0, 0, 9);
        String[] least = {"b=0", "a=0", "w=0", "n=0", "o=0", "y=0"}, most = {"b=9", "a=15", "w=9", "n=9", "o=10", "y=99"};
        for (String text : least) Check.due(text + " of the first", Check.law(x, text) * 10 + x.goes(0), 11);
        x.mend(9, 1, 15);
        x.mend(15, 6, 9);
        x.mend(0, 7, 99);
        for (int b = 0; b <= 9; b++) x.mend(b, 3, 1);
        for (String text : most) Check.due(text + " of the last", Check.law(x, text) * 10 + x.goes(9), 11);
    }

    /** One law, asked with each number that a name can be, and asked again: what was answered before does not stand in for it. */
    private static void namesOverAndOver() {
        int[] most = {9, 15, 9, 9, 10, 99};
        String[] texts = {"%10", "/10"};
        for (int name = 0; name < 6; name++) {
            for (int t = 0; t < 2; t++) {
                ToadWall x = Check.wall(0, 0, 0, 0, 0, 0, 0, 0, 0, 0);
                Check.law(x, NAMES.charAt(name) + texts[t]);
                for (int i = 0; i <= most[name]; i++) {
                    tell(x, name, i);
                    Check.due(NAMES.charAt(name) + texts[t] + " of " + i, x.goes(name == 3 ? i : 0), t == 0 ? i % 10 : i / 10);
                }
                tell(x, name, 0);
                Check.due(NAMES.charAt(name) + texts[t] + " of 0 again", x.goes(0), 0);
            }
        }
    }

    private static void tell(ToadWall x, int name, int v) {
        if (name < 2) x.mend(0, name, v);
        // The WORD is the same wherever he is, so that a law by AT is told apart by AT alone.
        if (name == 1) x.mend(v, 6, 0);
        if (name == 2) x.mend(0, 6, v);
        if (name == 5) x.mend(0, 7, v);
        if (name == 4) for (int b = 0; b < 10; b++) x.mend(b, 3, b < v ? 1 : 0);
    }

    private static void openAtOnce() {
        Doc.terms("At most 6 of ( ! - ahead of an O are open at once.");
        for (char sign : AHEAD.toCharArray()) {
            String end = sign == '(' ? ")" : "", one = "" + sign;
            for (int many = 1; many <= 6; many++) fine(one.repeat(many) + "1" + end.repeat(many));
            faultDue(one.repeat(7) + "1" + end.repeat(7), 6);
            faultDue(one.repeat(7), 6);
            faultDue(one.repeat(6), 6);
            for (char last : AHEAD.toCharArray()) faultDue(one.repeat(6) + last, 6);
        }
        fine("!-(!-(1))", "(-(-(-1)))", "-(!(-(1)))");
        faultDue("!-(!-((1)))", 6);
        faultDue("!-(!-(!1))", 6);
        faultDue("!-(!-(-1))", 6);
        // Those whose O has ended are not open any more; brackets around are.
        fine("------1+------1", "------1-------1", "(((((-1+-1)))))", "(((((!1&!1)))))", "((((((1))))))*((((((1))))))", "-----(1)-(((((1)))))");
        faultDue("------1--------1", 14);
        faultDue("(((((-1+--1)))))", 9);
        faultDue("(((((1))))+(((((1", 17);
        faultDue("(((((1))))+((((((1", 16);
        faultDue("((((1))))+(((((((1", 16);
        fine("(((((1))))+(1))", "((((((1)))))+(1))");
        faultDue("(((((-(1", 6);
        fine("(((((-1)+(1)))))");
        faultDue("(((((-1)+((1", 12);
        faultDue("(((((-1)+(((1", 11);
        // Each E of a LINE, and each LINE, begins anew.
        fine("((((((1))))))?((((((1))))));((((((1))))))?------1");
        faultDue("1?(((((((1", 8);
        faultDue("1;(((((((1", 8);
        worthDue("------7", 7);
        worthDue("-----7+9", 2);
        worthDue("!!!!!!7", 1);
        worthDue("((((((7))))))", 7);
    }

    private static void ints() {
        Doc.terms("Ints that wrap; / and % toward 0, by 0 they give 0; | & < = > ! give 1, 0; all is worked out.");
        // 8192 * 8192 * 32 is 2147483648, and wraps to the least int.
        String least = "8192*8192*32", most = "(8192*8192*32-1)";
        worthDue(least + "<0", 1);
        worthDue("8192*8192*31>0", 1);
        worthDue(most + ">0", 1);
        worthDue(most + "+1<0", 1);
        worthDue(most + "+1=" + least, 1);
        worthDue(least + "-1=" + most, 1);
        worthDue(least + "*2", 0);
        worthDue(least + "*2+7", 7);
        worthDue("-(" + least + ")=" + least, 1);
        worthDue("(" + least + ")/-1=" + least, 1);
        worthDue("(" + least + ")%-1+3", 3);
        worthDue("9999*9999*9999=9999*(9999*9999)", 1);
        worthDue("9999*9999*9999<0", 9999 * 9999 * 9999 < 0 ? 1 : 0);
        worthDue("!(" + least + ")", 0);
        worthDue(least + "|0", 1);
        worthDue(least + "?6;7", 6);
    }

    private static void towardZero() {
        worthDue("7/2", 3);
        worthDue("-7/2+9", 6);
        worthDue("7/-2+9", 6);
        worthDue("-7/-2", 3);
        worthDue("-1/2", 0);
        worthDue("-1/2+5", 5);
        worthDue("7%4", 3);
        worthDue("-7%4+9", 6);
        worthDue("7%-4", 3);
        worthDue("-7%-4+9", 6);
        worthDue("5/0+2", 2);
        worthDue("5%0+2", 2);
        worthDue("0/0+2", 2);
        worthDue("0%0+2", 2);
        worthDue("-5/0+2", 2);
        worthDue("5/(3-3)+2", 2);
        worthDue("5/!1+2", 2);
        // All is worked out, and a division by 0 within what does not count harms nothing.
        worthDue("1|5/0", 1);
        worthDue("0&5%0", 0);
        worthDue("0?5/0;3", 3);
        worthDue("1?3;5/0", 3);
    }

    private static void onesAndZeros() {
        int[][] table = {{0, 0}, {0, 7}, {7, 0}, {7, 8}, {8, 7}, {7, 7}};
        for (int[] t : table) {
            int a = t[0], b = t[1];
            worthDue(a + "|" + b, a != 0 || b != 0 ? 1 : 0);
            worthDue(a + "&" + b, a != 0 && b != 0 ? 1 : 0);
            worthDue(a + "<" + b, a < b ? 1 : 0);
            worthDue(a + "=" + b, a == b ? 1 : 0);
            worthDue(a + ">" + b, a > b ? 1 : 0);
        }
        worthDue("!0", 1);
        worthDue("!1", 0);
        worthDue("!7", 0);
        worthDue("!-7", 0);
        worthDue("-1|0", 1);
        worthDue("-1&-1", 1);
        worthDue("-1<0", 1);
        worthDue("0<-1", 0);
        worthDue("-2>-1", 0);
        worthDue("-1>-2", 1);
        worthDue("4|8&0|0", 1);
    }

    private static void whichLineCounts() {
        Doc.terms("The first LINE without a first E, or whose first E is not 0, counts; none: 0.");
        worthDue("3;4", 3);
        worthDue("0;4", 0);
        worthDue("0?3;4", 4);
        worthDue("1?3;4", 3);
        worthDue("1?0;4", 0);
        worthDue("0?3;0;4", 0);
        worthDue("0?3;0?4;5", 5);
        worthDue("0?3;1?4;5", 4);
        worthDue("0?3;-1?4;5", 4);
        worthDue("0?3;5;1?4", 5);
        worthDue("0?3", 0);
        worthDue("0?3;0?4", 0);
        worthDue("0?3;0?4;0?5", 0);
        worthDue("0?3;0?4;1?5", 5);
        worthDue("b=4?3;b=5?4;b=5?5", 4);
        ToadWall x = Check.wall(0);
        for (int i = 0; i < 2; i++) Check.law(x, "1;2;3;4;5;6;7;8;9;8;7;6;5");
        Check.law(x, "0?3");
        Check.due("none, and nothing of a longer law ahead of it", x.goes(0), 0);
        Check.law(x, "0?3;0?4");
        Check.due("none of two", x.goes(0), 0);
    }

    private static void faults() {
        Doc.terms("FAULT: the place (from 0) of the first byte with which no TEXT goes on; the length, if it ends too early.");
        faultDue("", 0);
        faultDue("$", 0);
        faultDue("1$", 1);
        faultDue("1+$$$", 2);
        faultDue("1+", 2);
        faultDue("((1)", 4);
        faultDue("1)1)", 1);
        faultDue("((((((1)))))", 12);
        String most = "1+".repeat(59);
        faultDue(most + "1$", 119);
        faultDue(most + "$1", 118);
        faultDue(most + "1+", 120);
        faultDue(most + "(1", 120);
        faultDue(most + "-(", 120);
        faultDue(most + "1)", 119);
        faultDue("1".repeat(120), 4);
        faultDue("$".repeat(120), 0);
    }

    /** Behind each beginning, which of all 256 bytes go on. */
    private static void whichByteGoesOn() {
        String begins = DIGITS + NAMES + AHEAD, joins = JOINS + COMPARES;
        String[][] beginnings = {
            {"", begins}, {"1+", begins}, {"1-", begins}, {"1*", begins}, {"1/", begins}, {"1%", begins}, {"1<", begins}, {"1=", begins},
            {"1>", begins}, {"1&", begins}, {"1|", begins}, {"1?", begins}, {"1;", begins}, {"1?1;", begins}, {"(", begins}, {"!", begins},
            {"-", begins}, {"(1+", begins}, {"-----", begins}, {"------", DIGITS + NAMES}, {"!!!!!!", DIGITS + NAMES}, {"((((((", DIGITS + NAMES},
            {"1", DIGITS + joins + "?;"}, {"123", DIGITS + joins + "?;"}, {"1234", joins + "?;"}, {"b", joins + "?;"}, {"y", joins + "?;"},
            {"(1)", joins + "?;"}, {"!b", joins + "?;"}, {"(1", DIGITS + joins + ")"}, {"(b", joins + ")"}, {"((b)", joins + ")"},
            {"b<b", JOINS + "?;"}, {"b<b+b", JOINS + "?;"}, {"(b<b", JOINS + ")"}, {"(b<b)", joins + "?;"}, {"b<b&b", joins + "?;"},
            {"b<b|b", joins + "?;"}, {"b?b", joins + ";"}, {"b?b<b", JOINS + ";"}, {"b?b;b", joins + "?;"}, {"b<b?b", joins + ";"},
            {"b<b;b", joins + "?;"}, {"b?(b", joins + ")"}};
        for (String[] beginning : beginnings) {
            for (int c = 0; c < 256; c++) {
                String text = beginning[0] + (char) c;
                boolean goesOn = beginning[1].indexOf(c) >= 0;
                long answer = Check.law(Check.wall(0), text);
                int place = beginning[0].length();
                if (!goesOn) Check.due(text, answer, -100 - place);
                else Check.holds(text + " goes on, it answered " + answer, answer == 1 || answer == -100 - place - 1);
            }
        }
    }

    private static void heldWithin() {
        Doc.terms("It gives how many THOUGHTS he goes on in a century (held within 0 .. 9).");
        worthDue("0", 0);
        worthDue("-1", 0);
        worthDue("-9999", 0);
        worthDue("8192*8192*32", 0);
        worthDue("9", 9);
        worthDue("10", 9);
        worthDue("9999", 9);
        worthDue("8192*8192*32-1", 9);
        int[] held = {-1, 0, 1, 8, 9, 10};
        for (int v : held) {
            ToadWall x = Check.wall(0);
            Check.law(x, v < 0 ? "0-1" : "" + v);
            int want = Math.max(0, Math.min(9, v));
            Check.due("in thought by " + v, x.later(1, 0, 0), want);
            x.century();
            Check.due("in deed by " + v, x.of(0, 1), want);
        }
    }

    private static void withoutAText() {
        Doc.terms("Without a text: 1, and b by 4 (cut).");
        int[] want = {1, 1, 1, 1, 2, 2, 2, 2, 3, 3};
        ToadWall x = Check.wall(0, 1, 2, 3, 4, 5, 6, 7, 8, 9);
        for (int b = 0; b <= 9; b++) {
            Check.due("goes(" + b + ")", x.goes(b), want[b]);
            Check.due("later(1, " + b + ", 0)", x.later(1, b, 0), want[b]);
        }
        Check.due("a text with a fault is none", Check.law(x, "7+"), -102);
        Check.due("goes(9)", x.goes(9), 3);
        x.century();
        for (int b = 0; b <= 9; b++) Check.due("of(" + b + ", 1)", x.of(b, 1), want[b]);
    }

    private static void century() {
        Doc.terms("A CENTURY: each who is not OPEN goes on by LEADS, so many times as THE LAW gives (worked out ahead of his first step).");
        // Worked out at each step anew, a law by AT or by WORD would give another number.
        ToadWall x = Check.at(Check.wall(0, 0, 0, 0), 3, 3, 0, 15);
        x.mend(1, 3, 1);
        Check.law(x, "a");
        Check.due("in thought, from 3", x.later(1, 0, 0), 6);
        Check.due("in thought, who is OPEN", x.later(1, 1, 0), 3);
        x.century();
        int[] want = {6, 3, 0, 15};
        for (int b = 0; b < 4; b++) Check.due("AT of " + b, x.of(b, 1), want[b]);
        ToadWall dead = Check.wall(0, 0);
        dead.mend(0, 4, 1);
        dead.mend(1, 4, 1);
        dead.mend(1, 3, 1);
        Check.due("in thought, who is DEAD and not OPEN", dead.later(2, 0, 0), 2);
        dead.century();
        Check.due("who is DEAD and not OPEN goes on, DEAD and OPEN does not", dead.of(0, 1) * 10 + dead.of(1, 1), 10);
        Check.due("15 leads elsewhere", x.mend(15, 5, 0), 15);
        Check.due("nine steps from 15", x.later(1, 3, 0), 8);
        // By o: who is opened counts at once; each of a century goes by the same o and y.
        ToadWall y = Check.wall(0, 0);
        Check.law(y, "o*2+y");
        y.century();
        Check.due("none is OPEN, CENTURY 0", y.of(0, 1) * 10 + y.of(1, 1), 0);
        y.century();
        Check.due("CENTURY 1, of both alike", y.of(0, 1) * 10 + y.of(1, 1), 11);
        y.open(0);
        y.century();
        Check.due("one is OPEN, CENTURY 2", y.of(0, 1) * 10 + y.of(1, 1), 15);
    }

    private static void centuryStays() {
        Doc.terms("CENTURY is one more (99 stays).");
        ToadWall x = Check.wall(0);
        Check.law(x, "y=99");
        x.mend(0, 7, 97);
        Check.due("98", x.century(), 98);
        Check.due("99", x.century(), 99);
        Check.due("nobody went on by 99 yet", x.of(0, 1), 0);
        Check.due("99 stays", x.century(), 99);
        Check.due("a step by 99", x.of(0, 1), 1);
        Check.due("99 stays", x.century(), 99);
        Check.due("a step by 99", x.of(0, 1), 2);
        Check.due("the century is told", x.of(0, 7), 99);
        ToadWall y = Check.wall(0);
        Check.law(y, "y=99");
        y.mend(0, 7, 98);
        int[] at = {0, 0, 1, 2, 3};
        for (int n = 0; n <= 4; n++) Check.due("in thought, behind " + n, y.later(n, 0, 0), at[n]);
        Check.due("in thought, behind 16", y.later(16, 0, 0), 15);
        Check.due("in thought, when", y.when(0, 1), 2);
        Check.due("in thought, a book", Check.row(y, 0, 0, 0, 0, 1, 2).judge(0, 0), Edge.NOT);
        y.block(0);
        y.block(0);
        Check.due("in thought, two openings", y.openings(2, -1), 1);
        Check.due("in thought, three openings", y.openings(3, -1), 2);
    }
}
