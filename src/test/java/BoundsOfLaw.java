/** Promises 7 and 8: which texts are THE LAW, the FAULT of all others, and what a law gives. */
final class BoundsOfLaw {
    private static final String[] OPENED = {"(", "!", "-"};

    private BoundsOfLaw() {
    }

    static void run() {
        p7At120Bytes();
        p7Behind120Bytes();
        p7OneLineOrMore();
        p7Digits();
        p7FirstBytes();
        p7SecondBytes();
        p7SixOpenOfOneSign();
        p7SixOpenOfAll();
        p7WhatIsNoLongerOpen();
        p7OneComparison();
        p7OneQuestion();
        p7NoBlanks();
        p7EndsTooEarly();
        p7EndsTooEarlyAt120();
        p7FirstByteOfAll();
        p7EmptyThen();
        p7LawStays();
        p8IntsThatWrap();
        p8TowardNought();
        p8By0();
        p8OneOrNought();
        p8AllIsWorkedOut();
        p8FirstLineThatCounts();
        p8NoLineCounts();
        p8Held();
        p8ValuesAtTheirEnds();
    }

    private static void told(String text, int want) {
        NamesOnLoan x = Lands.land(3, 5);
        Sentences.due("law of '" + text + "'", Lands.law(x, text), want);
        Sentences.due("the tape behind '" + text + "'", x.count(2), 0);
    }

    private static void good(String text) {
        told(text, 1);
    }

    private static void fault(String text, int place) {
        told(text, -100 - place);
    }

    /** Of three SYLLABLES, five times out of doors, worn with none other, COLD 6, given to nobody. */
    private static void gives(String text, int want) {
        NamesOnLoan x = Lands.land(3, 5);
        x.mend(0, 4, 6);
        Sentences.due("law of '" + text + "'", Lands.law(x, text), 1);
        Sentences.due("burns by '" + text + "'", x.burns(0), want);
    }

    private static String times(String part, int many) {
        StringBuilder out = new StringBuilder();
        for (int k = 0; k < many; k++) {
            out.append(part);
        }
        return out.toString();
    }

    private static void p7At120Bytes() {
        Sentences.of(7, "THE LAW is a TEXT by THE TAPE (at most 120 bytes)");
        gives("10" + times("+1", 59), 69);
        gives("9" + times("+1", 59), 68);
        fault(times("0?9;", 29) + "0?7;", 120);
        gives(times("0?9;", 29) + "1+6", 7);
        gives(times("0?9;", 29) + "1+16", 17);
        good(times("!!!!!!s+", 15).substring(0, 119));
        good(times("1;", 59) + "1");
    }

    private static void p7Behind120Bytes() {
        Sentences.of(7, "FULL (-3)");
        NamesOnLoan x = Lands.land(3, 5);
        Lands.feed(x, "10" + times("+1", 59));
        Sentences.due("a 121st byte", x.feed('+'), -3);
        Sentences.due("a 122nd byte", x.feed(')'), -3);
        Sentences.due("law()", x.law(), 1);
        Sentences.due("by 120 bytes", x.burns(0), 69);
    }

    private static void p7OneLineOrMore() {
        Sentences.of(7, "LINES, one or more, parted by ;");
        fault("", 0);
        fault(";", 0);
        good("1");
        good("1;2");
        fault("1;", 2);
        fault("1;;2", 2);
        fault(";1", 0);
        good("1?2;3?4;5");
        fault("1?2;", 4);
        fault("1?;2", 2);
    }

    private static void p7Digits() {
        Sentences.of(7, "O = a number (1 to 4 digits)");
        good("0");
        good("9");
        good("10");
        good("999");
        good("9999");
        good("0000");
        fault("10000", 4);
        fault("00000", 4);
        fault("99999999", 4);
        good("9999+9999");
        fault("9999+99999", 9);
        fault("1?12345", 6);
        fault("(12345)", 5);
        fault("-12345", 5);
        fault("1234s", 4);
        gives("0009", 9);
        gives("9999-9990", 9);
        gives("1000/100", 10);
        Sentences.of(7, "O = a number (1 to 4 digits), a NAME");
        fault("12s", 2);
        fault("s1", 1);
        fault("ss", 1);
        fault("1(", 1);
        fault("s(1)", 1);
        fault("1!", 1);
        fault("(1)2", 3);
        fault("(1)(2)", 3);
    }

    private static boolean isIn(String signs, int letter) {
        return letter < 128 && signs.indexOf((char) letter) >= 0;
    }

    private static void p7FirstBytes() {
        Sentences.of(7, "the place (from 0) of the first byte with which no TEXT goes on");
        for (int letter = 0; letter < 256; letter++) {
            NamesOnLoan x = Lands.empty();
            x.feed(letter);
            int want = isIn("0123456789soncfg", letter) ? 1 : isIn("(!-", letter) ? -101 : -100;
            Sentences.due("law of the byte " + letter, x.law(), want);
            x.feed(letter);
            x.feed(letter);
            int then = isIn("0123456789", letter) ? 1 : isIn("soncfg", letter) ? -101 : isIn("(!-", letter) ? -102 : -100;
            Sentences.due("law of twice the byte " + letter, x.law(), then);
        }
    }

    private static void p7SecondBytes() {
        Sentences.of(7, "the place (from 0) of the first byte with which no TEXT goes on");
        String joining = "|&<=>+-*/%?;";
        for (int letter = 0; letter < 256; letter++) {
            NamesOnLoan x = Lands.empty();
            x.feed('7');
            x.feed(letter);
            int want = isIn("0123456789", letter) ? 1 : isIn(joining, letter) ? -102 : -101;
            Sentences.due("law of 7 and the byte " + letter, x.law(), want);
            x.feed('g');
            x.feed(letter);
            x.feed('g');
            Sentences.due("law of g, the byte " + letter + ", g", x.law(), isIn(joining, letter) ? 1 : -101);
            x.feed('(');
            x.feed('g');
            x.feed(letter);
            x.feed('g');
            boolean inside = isIn("|&<=>+-*/%", letter);
            int then = inside ? -104 : letter == ')' ? -103 : -102;
            Sentences.due("law of (g, the byte " + letter + ", g", x.law(), then);
        }
    }

    private static void p7SixOpenOfOneSign() {
        Sentences.of(7, "At most 6 of ( ! - ahead of an O are open at once");
        for (int many = 1; many <= 12; many++) {
            int most = Math.min(many, 6);
            told(times("(", many) + "s" + times(")", many), many <= 6 ? 1 : -100 - most);
            told(times("!", many) + "s", many <= 6 ? 1 : -100 - most);
            told(times("-", many) + "s", many <= 6 ? 1 : -100 - most);
            told("1+" + times("-", many) + "4", many <= 6 ? 1 : -102 - most);
            told("1?" + times("!", many) + "4", many <= 6 ? 1 : -102 - most);
            told("1;" + times("(", many) + "4" + times(")", many), many <= 6 ? 1 : -102 - most);
        }
        gives("((((((8))))))", 8);
        gives("!!!!!!8", 1);
        gives("!!!!!8", 0);
        gives("------8", 8);
        gives("-----8+9", 1);
    }

    private static void p7SixOpenOfAll() {
        Sentences.of(7, "At most 6 of ( ! - ahead of an O are open at once");
        for (int way = 0; way < 729; way++) {
            StringBuilder six = new StringBuilder();
            StringBuilder closed = new StringBuilder();
            for (int k = 0, rest = way; k < 6; k++, rest /= 3) {
                six.append(OPENED[rest % 3]);
                closed.append(rest % 3 == 0 ? ")" : "");
            }
            good(six + "n" + closed);
            fault(six + OPENED[way % 3] + "n" + closed, 6);
        }
    }

    private static void p7WhatIsNoLongerOpen() {
        Sentences.of(7, "are open at once");
        good("(1)+(2)+(3)+(4)+(5)+(6)+(7)");
        good("!1+!1+!1+!1+!1+!1+!1");
        good("-1--1--1--1--1--1--1--1");
        good("((((((1))))))+((((((1))))))");
        good("(((((!1+!2)))))");
        good("(((((-1)))))*------1");
        good("((((((1-1-1-1-1))))))");
        fault("((((((1--1))))))", 8);
        fault("((((((1+!1))))))", 8);
        fault("((((((1+(1)))))))", 8);
        good("(((((1+(1))))))");
        good("!!!(!(1)+!!1)");
        fault("!!!(!(1)+!!!1)", 11);
        good("------1?------1;------1");
        fault("------1?-------1", 14);
        fault("------1;-------1", 14);
    }

    private static void p7OneComparison() {
        Sentences.of(7, "B = S, or S < S, S = S, S > S");
        for (String one : new String[] {"<", "=", ">"}) {
            good("1" + one + "2");
            fault("1" + one, 2);
            fault(one + "1", 0);
            for (String other : new String[] {"<", "=", ">"}) {
                fault("1" + one + "2" + other + "3", 3);
                fault("1" + one + other + "3", 2);
                good("(1" + one + "2)" + other + "3");
                good("1" + one + "2&2" + other + "3");
                good("1" + one + "2|2" + other + "3");
            }
        }
    }

    private static void p7OneQuestion() {
        Sentences.of(7, "LINE: E, or E ? E");
        good("1?2");
        fault("1?2?3", 3);
        fault("?2", 0);
        fault("1?", 2);
        fault("1??2", 2);
        fault("(1?2)", 2);
        fault("(1;2)", 2);
        fault("1?2;?3", 4);
        // both are whole: every sign that joins may stand in them
        gives("0|1&1<2+3*1?0|1&2=2&3>2+0*1;9", 1);
        gives("0|0?8;0?9;1|0?0|7", 1);
    }

    private static void p7NoBlanks() {
        Sentences.of(7, "No blanks.");
        for (char blank : new char[] {' ', '\t', '\n', '\r', 0, 160}) {
            fault(blank + "1", 0);
            fault("1" + blank, 1);
            fault("1" + blank + "+2", 1);
            fault("1+" + blank + "2", 2);
            fault("!" + blank + "2", 1);
            fault("1;" + blank + "2", 2);
        }
    }

    private static void p7EndsTooEarly() {
        Sentences.of(7, "the length, if it ends too early");
        for (String text : new String[] {"", "(", "(1", "((1)", "!", "-", "1+", "1-", "1*", "1/", "1%", "1|", "1&", "1<", "1=",
            "1>", "1?", "1;", "1?2;", "1+(", "1+(2", "!!!!!!", "((((((", "((((((1", "((((((1)", "s*(n+", "1234+", "(1)-"}) {
            fault(text, text.length());
        }
    }

    private static void p7EndsTooEarlyAt120() {
        Sentences.of(7, "the length, if it ends too early");
        good("s" + times("+1", 59));
        fault("s" + times("+1", 59) + "+", 120);
        fault("(" + times("1+", 59) + "1", 120);
        fault(times("1;", 60), 120);
    }

    private static void p7FirstByteOfAll() {
        Sentences.of(7, "the place (from 0) of the first byte with which no TEXT goes on");
        fault("x+*", 0);
        fault("1+*x", 2);
        fault("s*s+o)", 5);
        fault("(s*s+o))", 7);
        fault("1;2?3;4;)", 8);
        fault("s" + times("+1", 58) + "++", 118);
        fault("s" + times("+1", 59) + "x", 119);
        fault("s" + times("+1", 59) + ")", 119);
        NamesOnLoan x = Lands.empty();
        x.feed('1');
        x.feed(200);
        x.feed(201);
        Sentences.due("law of a byte of 200", x.law(), -101);
    }

    private static void p7EmptyThen() {
        Sentences.of(7, "THE TAPE is empty then");
        NamesOnLoan x = Lands.land(3, 5);
        Sentences.due("a law", Lands.law(x, "7"), 1);
        Sentences.due("bytes", x.count(2), 0);
        Sentences.due("the first again", x.feed('8'), 1);
        Sentences.due("a law", x.law(), 1);
        Sentences.due("by the second law alone", x.burns(0), 8);
        Sentences.due("a fault", Lands.law(x, "7+"), -102);
        Sentences.due("bytes behind a fault", x.count(2), 0);
        Sentences.due("the first again, behind a fault", x.feed('9'), 1);
        Sentences.due("a law", x.law(), 1);
        Sentences.due("by the third law alone", x.burns(0), 9);
        Sentences.due("a tape of 120", Lands.law(x, times("s+", 60)), -220);
        Sentences.due("it takes 120 again", Lands.law(x, "10" + times("+1", 59)), 1);
        Sentences.due("a shorter one behind a longer one", Lands.law(x, "4"), 1);
        Sentences.due("by the shorter one", x.burns(0), 4);
    }

    private static void p7LawStays() {
        Sentences.of(7, "THE TAPE becomes THE LAW: 1; -100 less its FAULT");
        NamesOnLoan x = Lands.land(3, 5);
        x.mend(0, 4, 9);
        Sentences.due("without a text", x.burns(0), 17);
        Sentences.due("a fault", Lands.law(x, "5?"), -102);
        Sentences.due("still without a text", x.burns(0), 17);
        Sentences.due("a law", Lands.law(x, "5"), 1);
        Sentences.due("an empty tape", x.law(), -100);
        Sentences.due("by the law", x.burns(0), 5);
        Sentences.due("a fault that begins like a law", Lands.law(x, "6;7;("), -105);
        Sentences.due("by the law still", x.burns(0), 5);
    }

    private static int held(int v) {
        return Math.max(0, Math.min(99, v));
    }

    private static void p8IntsThatWrap() {
        Sentences.of(8, "Ints that wrap");
        gives("9999*9999*43/1000/1000/10+50", held(9999 * 9999 * 43 / 1000 / 1000 / 10 + 50));
        gives("9999*9999*21/1000/1000/100+50", held(9999 * 9999 * 21 / 1000 / 1000 / 100 + 50));
        gives("1024*1024*2048<0", 1);
        gives("1024*1024*2048-1>0", 1);
        gives("-(1024*1024*2048)<0", 1);
        gives("1024*1024*2048=-(1024*1024*2048)", 1);
        gives("1024*1024*4096=0", 1);
        gives("1024*1024*2047+1024*1024-1>0", 1);
        gives("1024*1024*2047+1024*1024-1+1<0", 1);
        gives("1024*1024*2048/-1<0", 1);
        gives("1024*1024*2048%-1=0", 1);
        gives("!(1024*1024*2048)+5", 5);
        gives("0-1024*1024*2048<0", 1);
        gives("9999*9999*9999%100", held(9999 * 9999 * 9999 % 100));
        gives("-(9999*9999*9999%100)", held(-(9999 * 9999 * 9999 % 100)));
    }

    private static void p8TowardNought() {
        Sentences.of(8, "/ and % toward 0");
        gives("7/2", 3);
        gives("-7/2+10", 7);
        gives("7/-2+10", 7);
        gives("-7/-2", 3);
        gives("-1/2+10", 10);
        gives("7%4", 3);
        gives("-7%4+10", 7);
        gives("7%-4", 3);
        gives("-7%-4+10", 7);
        gives("-8%4+10", 10);
    }

    private static void p8By0() {
        Sentences.of(8, "by 0 they give 0");
        gives("9/0", 0);
        gives("9%0", 0);
        gives("9/0+7", 7);
        gives("9%0+7", 7);
        gives("0/0+7", 7);
        gives("0%0+7", 7);
        gives("-9/0+7", 7);
        gives("9/(3-s)+7", 7);
        gives("9%g+7", 7);
        gives("9/0?8;7", 7);
        gives("1?9/0;7", 0);
    }

    private static void p8OneOrNought() {
        Sentences.of(8, "| & < = > ! give 1, 0");
        int[] all = {-5, 0, 1, 7};
        for (int a : all) {
            gives("20+!(" + a + ")*9", a == 0 ? 29 : 20);
            for (int b : all) {
                gives("20+(" + a + "|" + b + ")*9", a != 0 || b != 0 ? 29 : 20);
                gives("20+(" + a + "&" + b + ")*9", a != 0 && b != 0 ? 29 : 20);
                gives("20+(" + a + "<" + b + ")*9", a < b ? 29 : 20);
                gives("20+(" + a + "=" + b + ")*9", a == b ? 29 : 20);
                gives("20+(" + a + ">" + b + ")*9", a > b ? 29 : 20);
            }
        }
        gives("1|1|1", 1);
        gives("0|0|7", 1);
        gives("7&7&7", 1);
        gives("7&7&0", 0);
        gives("1|0&0", 1);
        gives("0&0|1", 1);
    }

    private static void p8AllIsWorkedOut() {
        Sentences.of(8, "all is worked out");
        gives("1|9/0", 1);
        gives("0&9/0", 0);
        gives("(1|9/0)+(0&9%0)+3", 4);
        gives("1?5;9/0", 5);
    }

    private static void p8FirstLineThatCounts() {
        Sentences.of(8, "The first LINE without a first E, or whose first E is not 0, counts");
        gives("7;8;9", 7);
        gives("0;8", 0);
        gives("1?7;8", 7);
        gives("-1?7;8", 7);
        gives("2?0;8", 0);
        gives("0?7;8", 8);
        gives("0?7;0?8;9", 9);
        gives("0?7;1?8;9", 8);
        gives("0?7;5;1?9", 5);
        gives("3-3?7;8", 8);
        gives("1?2<3;8", 1);
    }

    private static void p8NoLineCounts() {
        Sentences.of(8, "counts; none: 0");
        gives("0?7", 0);
        gives("0?7;0?8", 0);
        gives(times("0?9;", 29) + "0?9", 0);
        gives("g?7;s>3?8", 0);
    }

    private static void p8Held() {
        Sentences.of(8, "(held within 0 .. 99)");
        gives("98", 98);
        gives("99", 99);
        gives("100", 99);
        gives("101", 99);
        gives("9999", 99);
        gives("1", 1);
        gives("0", 0);
        gives("-1", 0);
        gives("-9999", 0);
        gives("1024*1024*2048", 0);
        gives("1024*1024*2048-1", 99);
        gives("100-1", 99);
        gives("100-101+5", 4);
    }

    private static void p8ValuesAtTheirEnds() {
        Sentences.of(8, "n how many NAMES the WEARER wears");
        NamesOnLoan x = Lands.alike(8);
        x.mend(7, 2, 9);
        Lands.law(x, "n*10+g");
        Sentences.due("one", x.burns(7), 10);
        for (int k = 0; k < 7; k++) {
            x.lend(k, 7);
            Sentences.due("of " + (k + 2), x.burns(7), (k + 2) * 10);
            Sentences.due("given, of " + (k + 2), x.burns(k), (k + 2) * 10 + 1);
        }
        Sentences.of(8, "s SYLLABLES, o OUT of the WEARER (0 in a HOUSE)");
        NamesOnLoan y = Lands.land(9, 9, 1, 0);
        Lands.law(y, "s*10+o");
        Sentences.due("9 and 9", y.burns(0), 99);
        Sentences.due("1 and 0", y.burns(1), 10);
        y.lend(0, 1);
        Sentences.due("9 and the WEARER's 0", y.burns(0), 90);
        y.lend(1, 1);
        y.lend(1, 0);
        Sentences.due("1 and the WEARER's 9", y.burns(1), 19);
        y.mend(0, 3, 1);
        Sentences.due("1 and 0 in a HOUSE", y.burns(1), 10);
        Sentences.of(8, "c COLD, f FIRE");
        Lands.law(y, "c*10+f");
        Sentences.due("COLD 2, FIRE 0", y.burns(1), 20);
        y.mend(0, 4, 9);
        y.mend(0, 5, 9);
        Sentences.due("COLD 9, FIRE 9", y.burns(1), 99);
        Sentences.due("COLD 9, no HOUSE", y.burns(0), 90);
        y.mend(0, 4, 0);
        Sentences.due("COLD 0, FIRE 9", y.burns(1), 9);
    }
}
