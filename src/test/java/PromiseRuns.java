/** Each promise of the document by itself: ordinary inputs, the edges it names, wrong inputs. */
public final class PromiseRuns {
    private static final int MIN = Integer.MIN_VALUE;
    private static final int MAX = Integer.MAX_VALUE;
    private static int wrong = 0;
    private static int asked = 0;

    private static void due(String call, long got, long want) {
        asked++;
        if (got != want) {
            wrong++;
            System.out.println(call + " answered " + got + ", due is " + want);
        }
    }

    public static void main(String[] args) {
        p1NewObject();
        p2Person();
        p3People();
        p4Mend();
        p5Of();
        p6Feed();
        p7LawFaults();
        p7LawStays();
        p8Burns();
        p8BurnsByLaw();
        p9Left();
        p10Winter();
        p11When();
        p12Last();
        p13Give();
        p14AllLast();
        p15Fewest();
        p16Thaws();
        p17Ring();
        p18Crowd();
        p19Letter();
        p20Owe();
        p21Debt();
        p22Doors();
        p23Judge();
        p24Wore();
        p25Drawn();
        p26Lend();
        p27Pass();
        p28Thaw();
        p29Led();
        p30And31Image();
        p32And33Undo();
        p34Body();
        p35And36Act();
        p37Keep();
        p38Row();
        p39And40Put();
        p41Shift();
        p42Taken();
        p43Count();
        System.out.println(wrong == 0 ? asked + " answers are as promised" : wrong + " answers are not as promised");
        if (wrong != 0) {
            System.exit(1);
        }
    }

    /** People by pairs of SYLLABLES and OUT. */
    private static NamesOnLoan land(int... pairs) {
        NamesOnLoan x = new NamesOnLoan();
        for (int k = 0; k + 1 < pairs.length; k += 2) {
            x.person(pairs[k], pairs[k + 1]);
        }
        return x;
    }

    private static int told(NamesOnLoan x, String text) {
        for (int k = 0; k < text.length(); k++) {
            x.feed(text.charAt(k));
        }
        return x.law();
    }

    private static void bytes(NamesOnLoan x, int shelf, int... values) {
        x.row(shelf, 0, values.length);
        for (int k = 0; k < values.length; k++) {
            x.put(shelf, k, values[k]);
        }
    }

    private static void p1NewObject() {
        NamesOnLoan x = new NamesOnLoan();
        for (int what = 0; what < 6; what++) {
            due("new: count(" + what + ")", x.count(what), 0);
            due("new: element(" + what + ", 0)", x.element(what, 0), Long.MIN_VALUE);
            due("new: taken(" + what + ", 0)", x.taken(what, 0), -11);
        }
        for (int what = 0; what < 4; what++) {
            due("new: led(" + what + ")", x.led(what), 0);
        }
        due("new: COLD", x.of(0, 4), 2);
        due("new: FIRE", x.of(0, 5), 0);
        due("new: back()", x.back(), -5);
        due("new: undo()", x.undo(), -5);
        due("new: redo()", x.redo(), -5);
        due("new: trace(0)", x.trace(0), -1);
        due("new: thaw()", x.thaw(), 0);
        due("new: last()", x.last(), -2);
    }

    private static void p2Person() {
        NamesOnLoan x = new NamesOnLoan();
        due("person(0, 5)", x.person(0, 5), -1);
        due("person(10, 5)", x.person(10, 5), -1);
        due("person(5, -1)", x.person(5, -1), -1);
        due("person(5, 10)", x.person(5, 10), -1);
        due("person(MIN, MAX)", x.person(MIN, MAX), -1);
        due("none came", x.count(0), 0);
        for (int k = 0; k < 8; k++) {
            due("person " + k, x.person(k + 1, 9 - k), k);
        }
        for (int k = 0; k < 8; k++) {
            int[] want = {k + 1, 9 - k, 4, 0};
            for (int what = 0; what < 4; what++) {
                due("of(" + k + ", " + what + ")", x.of(k, what), want[what]);
            }
            due("WEARER of " + k, x.of(k, 10), k);
            due("LEFT of " + k, x.of(k, 11), 100);
            due("CRACKED " + k, x.of(k, 12), 0);
            due("wears " + k, x.of(k, 13), 1);
        }
        due("a ninth", x.person(1, 0), -3);
        due("a ninth that is not so", x.person(0, 0), -1);
        due("eight", x.count(0), 8);
    }

    private static void p3People() {
        NamesOnLoan x = new NamesOnLoan();
        due("people(-1, 0, 1)", x.people(-1, 0, 1), -1);
        due("people(6, 0, 1)", x.people(6, 0, 1), -1);
        due("people(0, 0, 0)", x.people(0, 0, 0), -1);
        due("people(0, 0, 9)", x.people(0, 0, 9), -1);
        due("a missing row", x.people(0, 0, 3), 0);
        x.row(0, 1, 9);
        due("a row of shorts", x.people(0, 0, 3), -12);
        due("n is told first", x.people(0, 0, 0), -1);
        x.body(0);
        x.keep(0, 0);
        due("a NAME", x.people(0, 0, 3), -12);
        bytes(x, 0, 3, 6, 2, 9, 0, 9, 1, 9);
        due("it ends within a three", x.people(0, 0, 8), 2);
        due("SYLLABLES of 0", x.of(0, 0), 3);
        due("OUT of 0", x.of(0, 1), 6);
        due("COATS of 0", x.of(0, 2), 2);
        due("COATS of 1", x.of(1, 2), 9);
        due("HOUSE of 1", x.of(1, 3), 0);
        due("LEFT of 1", x.of(1, 11), 100);
        due("from a place on", x.people(0, 3, 1), 1);
        due("SYLLABLES of 2", x.of(2, 0), 9);
        due("the last places", x.people(0, 5, 1), 1);
        due("SYLLABLES of 3", x.of(3, 0), 9);
        due("a place too far", x.people(0, 6, 1), 0);
        due("the end", x.people(0, 8, 1), 0);
        due("far behind the end", x.people(0, MAX, 8), 0);
        bytes(x, 1, 1, 1, 1, 0, 1, 1, 1, 1, 1);
        due("one is not so", x.people(1, 0, 3), 1);
        bytes(x, 1, 1, 10, 1);
        due("OUT 10", x.people(1, 0, 1), 0);
        bytes(x, 1, 1, 1, 0);
        due("COATS 0", x.people(1, 0, 1), 0);
        bytes(x, 1, 1, -1, 1);
        due("OUT -1", x.people(1, 0, 1), 0);
        due("five", x.count(0), 5);
        bytes(x, 1, 1, 1, 1, 2, 2, 2, 3, 3, 3, 4, 4, 4);
        due("no more than n", x.people(1, 0, 2), 2);
        due("seven", x.count(0), 7);
        due("until FULL", x.people(1, 0, 4), 1);
        due("when FULL", x.people(1, 0, 4), 0);
        due("eight", x.count(0), 8);
    }

    private static void p4Mend() {
        NamesOnLoan x = land(3, 5, 2, 2);
        int[] low = {1, 0, 1, 0, 0, 0};
        int[] high = {9, 9, 9, 1, 9, 9};
        int[] first = {3, 5, 4, 0, 2, 0};
        for (int what = 0; what < 6; what++) {
            due("mend(0, " + what + ", low)", x.mend(0, what, low[what]), first[what]);
            due("mend(0, " + what + ", high)", x.mend(0, what, high[what]), low[what]);
            due("mend(0, " + what + ", below)", x.mend(0, what, low[what] - 1), -1);
            due("mend(0, " + what + ", above)", x.mend(0, what, high[what] + 1), -1);
            due("mend(2, " + what + ", 1)", x.mend(2, what, 1), -1);
            due("mend(-1, " + what + ", 1)", x.mend(-1, what, 1), -1);
            due("of(0, " + what + ")", x.of(0, what), high[what]);
        }
        due("mend(1, 4, 1)", x.mend(1, 4, 1), -1);
        due("mend(1, 5, 1)", x.mend(1, 5, 1), -1);
        due("mend(0, 6, 1)", x.mend(0, 6, 1), -1);
        due("mend(0, -1, 1)", x.mend(0, -1, 1), -1);
        due("mend(0, 10, 1)", x.mend(0, 10, 1), -1);
        due("mend(1, 0, 7)", x.mend(1, 0, 7), 2);
        due("the other stays", x.of(0, 0), 9);
        NamesOnLoan empty = new NamesOnLoan();
        due("COLD without people", empty.mend(0, 4, 9), 2);
        due("OUT without people", empty.mend(0, 1, 1), -1);
    }

    private static void p5Of() {
        NamesOnLoan x = land(3, 5, 2, 2);
        x.lend(0, 1);
        due("of(0, 10)", x.of(0, 10), 1);
        due("of(0, 13)", x.of(0, 13), 0);
        due("of(1, 13)", x.of(1, 13), 2);
        due("of(2, 10)", x.of(2, 10), -1);
        due("of(-1, 11)", x.of(-1, 11), -1);
        due("of(0, 6)", x.of(0, 6), -1);
        due("of(0, 9)", x.of(0, 9), -1);
        due("of(0, 14)", x.of(0, 14), -1);
        due("of(0, -1)", x.of(0, -1), -1);
        due("of(1, 4)", x.of(1, 4), -1);
        due("of(1, 5)", x.of(1, 5), -1);
        due("of(2, 4)", x.of(2, 4), -1);
        NamesOnLoan y = land(3, 0);
        told(y, "10");
        y.pass(7);
        due("LEFT 30", y.of(0, 11), 30);
        due("30 is not CRACKED", y.of(0, 12), 0);
        told(y, "1");
        y.pass(1);
        due("29 is CRACKED", y.of(0, 12), 1);
    }

    private static void p6Feed() {
        NamesOnLoan x = new NamesOnLoan();
        due("feed(-1)", x.feed(-1), -1);
        due("feed(256)", x.feed(256), -1);
        due("feed(0)", x.feed(0), 1);
        due("feed(255)", x.feed(255), 2);
        for (int k = 3; k <= 120; k++) {
            due("feed no " + k, x.feed('1'), k);
        }
        due("feed a 121st", x.feed('1'), -3);
        due("feed a bad 121st", x.feed(256), -1);
        due("the tape", x.count(2), 120);
    }

    private static void fault(String text, int want) {
        NamesOnLoan x = new NamesOnLoan();
        due("law of '" + text + "'", told(x, text), want < 0 ? 1 : -100 - want);
        due("the tape behind '" + text + "'", x.count(2), 0);
    }

    private static void p7LawFaults() {
        fault("", 0);
        fault("1", -1);
        fault("s", -1);
        fault("x", 0);
        fault(" 1", 0);
        fault("1 ", 1);
        fault("1234", -1);
        fault("12345", 4);
        fault("1+", 2);
        fault("+1", 0);
        fault("-1", -1);
        fault("1-", 2);
        fault("1--1", -1);
        fault("1++1", 2);
        fault("12s", 2);
        fault("s1", 1);
        fault("so", 1);
        fault("1<2", -1);
        fault("1<2<3", 3);
        fault("1<2=3", 3);
        fault("(1<2)<3", -1);
        fault("1<2&3>4|5=6", -1);
        fault("1?2", -1);
        fault("1?2?3", 3);
        fault("1?", 2);
        fault("?1", 0);
        fault("1;2?3;4", -1);
        fault("1;", 2);
        fault(";1", 0);
        fault("1;;1", 2);
        fault("(1", 2);
        fault("()", 1);
        fault("1)", 1);
        fault("(1)", -1);
        fault("(1;2)", 2);
        fault("(1?2)", 2);
        fault("((((((1))))))", -1);
        fault("(((((((1)))))))", 6);
        fault("!!!!!!s", -1);
        fault("!!!!!!!s", 6);
        fault("------1", -1);
        fault("-------1", 6);
        fault("-(-(-(1)))", -1);
        fault("-(-(-(-1)))", 6);
        fault("-(-(-(1-1-1-1)))", -1);
        fault("!(1)+!(2)*!(3)-(4)-(5)-(6)-(7)", -1);
        fault("(((1)+((((1))))))", -1);
        fault("(((1)+((((-1))))))", 10);
        fault("!!!!!!1+!!!!!!2", -1);
        fault("!", 1);
        fault("1!", 1);
        fault("1=", 2);
        fault("1==1", 2);
        StringBuilder longest = new StringBuilder("s");
        while (longest.length() < 119) {
            longest.append("+1");
        }
        fault(longest.toString(), -1);
        fault(longest + "+", 120);
        NamesOnLoan x = new NamesOnLoan();
        x.feed('1');
        x.feed(0);
        due("a byte of 0", x.law(), -101);
        x.feed(255);
        due("a byte of 255", x.law(), -100);
    }

    private static void p7LawStays() {
        NamesOnLoan x = land(3, 0);
        due("without a text", x.burns(0), 6);
        due("a first text that is not one", told(x, "9+"), -102);
        due("still without a text", x.burns(0), 6);
        due("a law", told(x, "5"), 1);
        due("by the law", x.burns(0), 5);
        due("one that is not one", told(x, "9+"), -102);
        due("the law stays", x.burns(0), 5);
        due("an empty tape", x.law(), -100);
        due("the law stays again", x.burns(0), 5);
        due("another law", told(x, "8"), 1);
        due("by the other law", x.burns(0), 8);
    }

    private static void p8Burns() {
        NamesOnLoan x = land(4, 2, 9, 0);
        due("c * s - o * 2", x.burns(0), 4);
        due("of the other", x.burns(1), 18);
        due("burns(2)", x.burns(2), -1);
        due("burns(-1)", x.burns(-1), -1);
        x.lend(1, 0);
        due("n less 1", x.burns(0), 5);
        due("by the WEARER's OUT", x.burns(1), 15);
        x.mend(0, 3, 1);
        due("a HOUSE stays in", x.burns(0), 9);
        x.mend(0, 5, 5);
        due("its FIRE", x.burns(0), 4);
        due("its FIRE for the other", x.burns(1), 14);
        x.mend(0, 3, 0);
        due("no HOUSE, no FIRE", x.burns(1), 15);
        x.mend(0, 4, 0);
        due("0 at least", x.burns(0), 0);
        x.mend(0, 4, 9);
        due("the coldest", x.burns(1), 78);
    }

    private static void byLaw(String text, int want) {
        NamesOnLoan x = land(3, 5, 7, 8);
        x.mend(0, 4, 6);
        x.mend(0, 5, 4);
        told(x, text);
        due("burns by '" + text + "'", x.burns(0), want);
    }

    private static void p8BurnsByLaw() {
        byLaw("s", 3);
        byLaw("o", 5);
        byLaw("n", 1);
        byLaw("c", 6);
        byLaw("f", 0);
        byLaw("g", 0);
        byLaw("100", 99);
        byLaw("9999", 99);
        byLaw("-5", 0);
        byLaw("1+2*3", 7);
        byLaw("(1+2)*3", 9);
        byLaw("10-3-2", 5);
        byLaw("40/4/2", 5);
        byLaw("40/4*2", 20);
        byLaw("-7/2+10", 7);
        byLaw("-7%4+10", 7);
        byLaw("5/0+1", 1);
        byLaw("5%0+1", 1);
        byLaw("3|0", 1);
        byLaw("0|0", 0);
        byLaw("2&3", 1);
        byLaw("2&0", 0);
        byLaw("1|0&0", 1);
        byLaw("2<3", 1);
        byLaw("3<2", 0);
        byLaw("2<2", 0);
        byLaw("(0|2)*7", 7);
        byLaw("1?0|2;9", 1);
        byLaw("1?((((((8))))));9", 8);
        byLaw("3>2", 1);
        byLaw("2>2", 0);
        byLaw("1+1=2", 1);
        byLaw("2=3", 0);
        byLaw("1<2&2<3", 1);
        byLaw("!0+5", 6);
        byLaw("!7+5", 5);
        byLaw("!!7", 1);
        byLaw("--7", 7);
        byLaw("2--3", 5);
        byLaw("-!0+3", 2);
        byLaw("0?5;1?6;7", 6);
        byLaw("0?5;0?6", 0);
        byLaw("0?5;7;8", 7);
        byLaw("-1?5;7", 5);
        byLaw("s>2?c*2;1", 12);
        byLaw("9999*9999*9999", 9999 * 9999 * 9999 < 0 ? 0 : 99);
        byLaw("9999*9999*43=9999*9999*43", 1);
        byLaw("9999*9999*30/9999/9999+50", 9999 * 9999 * 30 / 9999 / 9999 + 50);
        NamesOnLoan x = land(3, 5, 7, 8);
        x.mend(0, 5, 4);
        x.lend(0, 1);
        told(x, "g*50+n*10+o");
        due("given, worn by one of two", x.burns(0), 78);
        due("not given, one of two", x.burns(1), 28);
        x.mend(1, 3, 1);
        told(x, "f*10+o+s");
        due("FIRE in a HOUSE", x.burns(0), 43);
        x.thaw();
        due("no FIRE out of a HOUSE", x.burns(0), 8);
    }

    private static void p9Left() {
        NamesOnLoan x = land(4, 2);
        due("left(0, 0)", x.left(0, 0), 100);
        due("left(0, 1)", x.left(0, 1), 96);
        due("left(0, 24)", x.left(0, 24), 4);
        due("left(0, 25)", x.left(0, 25), 0);
        due("left(0, 99)", x.left(0, 99), 0);
        due("left(0, -1)", x.left(0, -1), -1);
        due("left(0, 100)", x.left(0, 100), -1);
        due("left(1, 0)", x.left(1, 0), -1);
        due("left(-1, 0)", x.left(-1, 0), -1);
        x.pass(3);
        due("from now", x.left(0, 1), 84);
    }

    private static void p10Winter() {
        NamesOnLoan x = land(4, 2, 9, 9, 2, 0);
        due("CRACKED at 15", x.winter(15, 0), 0);
        due("CRACKED at 16", x.winter(16, 0), 1);
        due("CRACKED at 21", x.winter(21, 0), 2);
        due("BURNT at 24", x.winter(24, 1), 0);
        due("BURNT at 25", x.winter(25, 1), 2);
        due("BURNT are CRACKED, too", x.winter(25, 0), 2);
        due("LEFT in all at 0", x.winter(0, 2), 300);
        due("LEFT in all at 10", x.winter(10, 2), 220);
        due("LEFT in all at 99", x.winter(99, 2), 100);
        due("winter(-1, 0)", x.winter(-1, 0), -1);
        due("winter(100, 0)", x.winter(100, 0), -1);
        due("winter(1, -1)", x.winter(1, -1), -1);
        due("winter(1, 3)", x.winter(1, 3), -1);
    }

    private static void p11When() {
        NamesOnLoan x = land(4, 2, 9, 9, 1, 0);
        due("when(0, 0)", x.when(0, 0), 16);
        due("when(0, 1)", x.when(0, 1), 25);
        due("when(1, 0)", x.when(1, 0), -2);
        due("when(1, 1)", x.when(1, 1), -2);
        told(x, "1");
        due("LEFT 9 of one SYLLABLE", x.when(2, 0), 91);
        due("the 100th DAY is none", x.when(2, 1), -2);
        told(x, "2");
        due("by 2", x.when(2, 1), 50);
        x.pass(50);
        due("CRACKED now", x.when(2, 0), 0);
        due("BURNT now", x.when(2, 1), 0);
        due("when(3, 0)", x.when(3, 0), -1);
        due("when(-1, 0)", x.when(-1, 0), -1);
        due("when(0, 2)", x.when(0, 2), -1);
        due("when(0, -1)", x.when(0, -1), -1);
    }

    private static void p12Last() {
        NamesOnLoan x = land(1, 9, 5, 0, 6, 1, 5, 0);
        due("of like ones the least", x.last(), 1);
        x.mend(3, 0, 6);
        due("the first to be BURNT", x.last(), 3);
        x.mend(0, 4, 0);
        due("none", x.last(), -2);
        told(x, "1");
        due("none within 99", x.last(), -2);
        x.pass(1);
        due("at 99", x.last(), 0);
        due("without people", new NamesOnLoan().last(), -2);
    }

    private static void p13Give() {
        NamesOnLoan x = land(5, 0, 2, 3, 2, 3);
        due("to whom", x.give(0, 9, 0), 1);
        due("how much", x.give(0, 9, 1), 55);
        due("0 DAYS: the least", x.give(2, 0, 0), 0);
        x.mend(1, 2, 1);
        due("may wear no more", x.give(0, 9, 0), 2);
        x.mend(2, 2, 1);
        due("to its WEARER", x.give(0, 9, 0), 0);
        due("to its WEARER, how much", x.give(0, 9, 1), 10);
        x.mend(1, 2, 2);
        x.lend(0, 1);
        x.mend(1, 2, 1);
        due("the WEARER who may wear no more", x.give(0, 9, 0), 1);
        due("n as it is", x.give(0, 9, 1), 55);
        due("give(3, 0, 0)", x.give(3, 0, 0), -1);
        due("give(-1, 0, 0)", x.give(-1, 0, 0), -1);
        due("give(0, 100, 0)", x.give(0, 100, 0), -1);
        due("give(0, -1, 0)", x.give(0, -1, 0), -1);
        due("give(0, 0, 2)", x.give(0, 0, 2), -1);
        due("give(0, 0, -1)", x.give(0, 0, -1), -1);
        due("a thought only", x.of(0, 10), 1);
    }

    private static void p14AllLast() {
        NamesOnLoan x = land(5, 0, 2, 4);
        // both with 1: 10 - 8 + 1 = 3 and 0; name 0 with 1 and name 1 with 0: 2 and 4
        due("WEARER of 0", x.allLast(10, 0), 1);
        due("WEARER of 1", x.allLast(10, 1), 1);
        due("BURNT", x.allLast(10, -1), 0);
        due("LEFT in all", x.allLast(10, -2), 170);
        x.mend(1, 2, 1);
        due("one COAT each: WEARER of 0", x.allLast(10, 0), 1);
        due("one COAT each: WEARER of 1", x.allLast(10, 1), 0);
        due("one COAT each: LEFT in all", x.allLast(10, -2), 140);
        due("0 DAYS: the first way", x.allLast(0, 0), 0);
        due("0 DAYS: the first way, of 1", x.allLast(0, 1), 0);
        due("a thought only", x.of(0, 10), 0);
        due("allLast(10, 2)", x.allLast(10, 2), -1);
        due("allLast(10, -3)", x.allLast(10, -3), -1);
        due("allLast(-1, 0)", x.allLast(-1, 0), -1);
        due("allLast(100, 0)", x.allLast(100, 0), -1);
        NamesOnLoan y = land(1, 0, 1, 0, 1, 0, 1, 0, 1, 0);
        due("five", y.allLast(0, -2), 500);
        due("five wear by COATS", y.allLast(0, 4), 1);
        y.person(1, 0);
        due("six", y.allLast(0, -2), -5);
        due("six, a NAME", y.allLast(0, 5), -5);
        due("six, no NAME", y.allLast(0, 6), -1);
        due("six, no DAYS", y.allLast(100, 0), -1);
        NamesOnLoan z = land(1, 0, 1, 0);
        told(z, "n=2?g*10;g?99;6");
        // shared: 100 in all, but one is BURNT; apart: 80 in all
        due("fewest BURNT", z.allLast(10, -1), 0);
        due("fewest BURNT: LEFT", z.allLast(10, -2), 80);
        due("fewest BURNT: WEARER of 1", z.allLast(10, 1), 1);
        NamesOnLoan v = land(5, 0, 1, 0, 5, 0);
        told(v, "s=5?99;1");
        due("two of three are BURNT", v.allLast(2, -1), 2);
        due("two of three are BURNT: LEFT", v.allLast(2, -2), 98);
        NamesOnLoan w = land(9, 0, 9, 0);
        told(w, "n=2?2*(1-g)+12*g;6");
        // shared: 0 keeps 90, 1 keeps 40, one is CRACKED, 130 in all; apart: 70 and 70, both CRACKED
        due("fewest CRACKED: WEARER of 0", w.allLast(5, 0), 0);
        due("fewest CRACKED: WEARER of 1", w.allLast(5, 1), 0);
        due("fewest CRACKED: LEFT", w.allLast(5, -2), 130);
    }

    private static void p15Fewest() {
        NamesOnLoan x = land(5, 0, 2, 4, 1, 1);
        due("one wears all", x.fewest(10), 1);
        x.mend(1, 2, 2);
        due("two", x.fewest(10), 2);
        told(x, "n>1?99;1");
        due("each its own", x.fewest(10), 3);
        due("0 DAYS, by COATS of 0", x.fewest(0), 1);
        told(x, "99");
        due("none", x.fewest(2), -2);
        due("just", x.fewest(1), 1);
        due("fewest(-1)", x.fewest(-1), -1);
        due("fewest(100)", x.fewest(100), -1);
        NamesOnLoan y = land(1, 0, 1, 0, 1, 0, 1, 0, 1, 0);
        due("four COATS for five", y.fewest(0), 2);
        y.mend(3, 2, 5);
        due("five COATS for five", y.fewest(0), 1);
        y.person(1, 0);
        due("six", y.fewest(0), -5);
        due("six, no DAYS", y.fewest(100), -1);
        due("none at all", new NamesOnLoan().fewest(7), 0);
    }

    private static NamesOnLoan lentOut() {
        NamesOnLoan x = land(1, 0, 1, 0, 1, 0, 1, 0, 1, 0, 1, 0);
        x.lend(0, 3);
        x.lend(4, 3);
        x.lend(2, 3);
        x.lend(3, 5);
        x.lend(5, 4);
        return x;
    }

    private static void p16Thaws() {
        NamesOnLoan x = lentOut();
        due("minutes", x.thaws(-1), 3);
        due("the least first", x.thaws(0), 1);
        due("at home", x.thaws(1), 0);
        due("the second", x.thaws(2), 2);
        due("another hands it", x.thaws(3), 1);
        due("the third", x.thaws(4), 3);
        due("of 5", x.thaws(5), 1);
        due("thaws(6)", x.thaws(6), -1);
        due("thaws(-2)", x.thaws(-2), -1);
        due("a thought only", x.count(1), 5);
        NamesOnLoan y = land(1, 0, 1, 0);
        y.lend(0, 1);
        due("the first NAME alone", y.thaws(-1), 1);
        y.thaw();
        y.lend(1, 0);
        due("its own NAME does not wait", y.thaws(1), 1);
    }

    private static void p17Ring() {
        NamesOnLoan x = lentOut();
        // 0 to 3, 3 to 5, 5 to 4, 4 to 3
        due("ring of 0", x.ring(0, 0), 3);
        due("0 is not in it", x.ring(0, 1), 0);
        due("ring of 4", x.ring(4, 0), 3);
        due("4 is in it", x.ring(4, 1), 1);
        due("ring of 1", x.ring(1, 0), 1);
        due("1 is in it", x.ring(1, 1), 1);
        due("2 is not in it", x.ring(2, 1), 0);
        due("ring(6, 0)", x.ring(6, 0), -1);
        due("ring(-1, 0)", x.ring(-1, 0), -1);
        due("ring(0, 2)", x.ring(0, 2), -1);
        due("ring(0, -1)", x.ring(0, -1), -1);
        NamesOnLoan y = land(1, 0, 1, 0, 1, 0, 1, 0, 1, 0, 1, 0, 1, 0, 1, 0);
        for (int k = 0; k < 8; k++) {
            y.lend(k, (k + 1) % 8);
        }
        due("a ring of all", y.ring(5, 0), 8);
        due("in the ring of all", y.ring(5, 1), 1);
    }

    private static void p18Crowd() {
        NamesOnLoan x = lentOut();
        due("how many", x.crowd(0), 3);
        due("who", x.crowd(1), 3);
        x.lend(2, 1);
        due("of like ones the least", x.crowd(1), 1);
        due("how many then", x.crowd(0), 2);
        x.thaw();
        x.lend(1, 0);
        due("the first one", x.crowd(1), 0);
        due("the first one, how many", x.crowd(0), 2);
        due("crowd(2)", x.crowd(2), -1);
        due("crowd(-1)", x.crowd(-1), -1);
        NamesOnLoan empty = new NamesOnLoan();
        due("nobody, how many", empty.crowd(0), 0);
        due("nobody, who", empty.crowd(1), -2);
        due("nobody, crowd(2)", empty.crowd(2), -1);
    }

    private static void p19Letter() {
        NamesOnLoan x = lentOut();
        due("its WEARER", x.letter(0, 0, 0), 3);
        due("one", x.letter(0, 0, 1), 1);
        due("sent on once", x.letter(0, 1, 0), 5);
        due("two", x.letter(0, 1, 1), 2);
        due("sent on thrice", x.letter(0, 3, 0), 3);
        due("three unlike", x.letter(0, 3, 1), 3);
        due("sent on 99 times", x.letter(0, 99, 0), 3);
        due("three, not more", x.letter(0, 99, 1), 3);
        due("at home", x.letter(1, 99, 0), 1);
        due("at home, one", x.letter(1, 99, 1), 1);
        due("letter(6, 0, 0)", x.letter(6, 0, 0), -1);
        due("letter(-1, 0, 0)", x.letter(-1, 0, 0), -1);
        due("letter(0, -1, 0)", x.letter(0, -1, 0), -1);
        due("letter(0, 100, 0)", x.letter(0, 100, 0), -1);
        due("letter(0, 0, 2)", x.letter(0, 0, 2), -1);
        due("letter(0, 0, -1)", x.letter(0, 0, -1), -1);
    }

    private static void p20Owe() {
        NamesOnLoan x = land(1, 0, 1, 0, 1, 0);
        due("owe(1, 0)", x.owe(1, 0), 0);
        due("owe(1, 99)", x.owe(1, 99), 99);
        due("owe(10, 5)", x.owe(10, 5), 5);
        due("owe(1, -99)", x.owe(1, -99), 0);
        due("below 0", x.owe(1, -1), -5);
        due("still 0", x.owe(1, 0), 0);
        due("owe(10, -5)", x.owe(10, -5), 0);
        due("to itself", x.owe(11, 1), -1);
        due("of none", x.owe(31, 1), -1);
        due("to none", x.owe(13, 1), -1);
        due("owe(-1, 1)", x.owe(-1, 1), -1);
        due("owe(100, 1)", x.owe(100, 1), -1);
        due("owe(MAX, 1)", x.owe(MAX, 1), -1);
        due("owe(MIN, 1)", x.owe(MIN, 1), -1);
        due("owe(1, 100)", x.owe(1, 100), -1);
        due("owe(1, -100)", x.owe(1, -100), -1);
        for (int k = 1; k <= 101; k++) {
            due("owe(21, 99) no " + k, x.owe(21, 99), 99 * k);
        }
        due("9999 is the most", x.owe(21, 1), -5);
        due("still 9999", x.owe(21, 0), 9999);
        due("BAD ahead of STATE", x.owe(21, 100), -1);
    }

    private static void p21Debt() {
        NamesOnLoan x = land(1, 0, 1, 0, 1, 0, 1, 0);
        x.owe(1, 5);
        x.owe(2, 7);
        x.owe(20, 11);
        x.owe(13, 13);
        due("awake of 0", x.debt(0), 12);
        due("awake of 2", x.debt(2), 11);
        due("none sleeps", x.debt(-1), 0);
        x.lend(2, 3);
        due("to one that is given", x.debt(0), 5);
        due("of one that is given", x.debt(2), 0);
        due("18 sleep", x.debt(-1), 18);
        due("a WEARER is not given", x.debt(1), 13);
        x.thaw();
        due("awake again", x.debt(0), 12);
        due("debt(4)", x.debt(4), -1);
        due("debt(-2)", x.debt(-2), -1);
    }

    private static void p22Doors() {
        NamesOnLoan x = land(5, 0, 1, 5, 5, 0);
        // names 0 and 2 burn 10 a day at home, 0 with 1; of like pairs the first
        due("the first of like ones", x.doors(5), 1);
        due("0 DAYS", x.doors(0), -2);
        due("as much as it is, not more", x.doors(99), -2);
        x.lend(0, 1);
        due("of 0 and 2 nothing is won", x.doors(5), 12);
        due("doors(-1)", x.doors(-1), -1);
        due("doors(100)", x.doors(100), -1);
        NamesOnLoan y = land(1, 3, 5, 0, 4, 0);
        due("10 times the lesser and the other", y.doors(9), 1);
        y.mend(0, 1, 0);
        y.mend(2, 1, 9);
        y.mend(2, 0, 1);
        due("the most of all", y.doors(9), 12);
        due("a thought only", y.count(1), 0);
        NamesOnLoan w = land(1, 0, 2, 0);
        told(w, "g?0;s=1");
        due("one more is more", w.doors(1), 1);
        due("nobody", new NamesOnLoan().doors(9), -2);
    }

    private static void p23Judge() {
        NamesOnLoan x = land(4, 2, 1, 9);
        due("judge(-1)", x.judge(-1), -1);
        due("judge(6)", x.judge(6), -1);
        due("nothing", x.judge(0), -11);
        x.body(0);
        x.keep(0, 0);
        due("a NAME", x.judge(0), -12);
        x.row(0, 4, 3);
        due("a row of booleans", x.judge(0), -12);
        x.row(0, 0, 0);
        due("an empty row", x.judge(0), -2);
        bytes(x, 0, 24, 0, 0, 99, 1, 1);
        due("all is so", x.judge(0), -2);
        bytes(x, 0, 24, 0, 0, 25, 0, 0);
        due("BURNT by then", x.judge(0), 1);
        bytes(x, 0, 0, 0, 0, 1, 1, 1, 2, 0, 1, 3, 1, 0);
        due("not the WEARER", x.judge(0), 2);
        bytes(x, 0, 0, 0, 0, 0, 2, 2);
        due("no such NAME", x.judge(0), 1);
        bytes(x, 0, 0, -1, 0);
        due("NAME -1", x.judge(0), 0);
        bytes(x, 0, 100, 1, 1);
        due("DAY 100", x.judge(0), 0);
        bytes(x, 0, -1, 1, 1);
        due("DAY -1", x.judge(0), 0);
        bytes(x, 0, 0, 0, 0, 0, 1, 1, 5);
        due("one that lacks", x.judge(0), 2);
        bytes(x, 0, 0, 0, 0, 0, 1);
        due("one that lacks, by one", x.judge(0), 1);
        x.lend(0, 1);
        bytes(x, 0, 0, 0, 1, 0, 1, 1);
        due("by the WEARER now", x.judge(0), -2);
        told(x, "50");
        x.pass(2);
        bytes(x, 0, 0, 0, 1);
        due("BURNT now", x.judge(0), 0);
    }

    private static void p24Wore() {
        NamesOnLoan x = land(5, 0, 1, 5);
        due("wore(-1, -1)", x.wore(-1, -1), -1);
        due("wore(6, -1)", x.wore(6, -1), -1);
        due("wore(0, -2)", x.wore(0, -2), -1);
        due("wore(0, 2)", x.wore(0, 2), -1);
        due("nothing", x.wore(0, -1), -11);
        x.row(0, 1, 3);
        due("a row of shorts", x.wore(0, -1), -12);
        x.row(0, 0, 0);
        due("an empty row", x.wore(0, -1), 4);
        due("the first", x.wore(0, 1), 0);
        x.mend(0, 2, 1);
        due("by COATS", x.wore(0, -1), 3);
        due("the first by COATS", x.wore(0, 0), 0);
        due("the first by COATS, of 1", x.wore(0, 1), 1);
        x.mend(0, 2, 4);
        // name 0 burns 10 a day with 0 alone, 11 with both, and 0 or 1 with 1
        bytes(x, 0, 9, 0, 0);
        due("alone or with both", x.wore(0, -1), 2);
        bytes(x, 0, 10, 0, 0);
        due("neither", x.wore(0, -1), 0);
        due("neither, who", x.wore(0, 0), -2);
        bytes(x, 0, 10, 0, 1);
        due("with 1", x.wore(0, -1), 2);
        due("with 1, who", x.wore(0, 0), 1);
        due("with 1, who wore 1", x.wore(0, 1), 0);
        bytes(x, 0, 0, 0, 0, 0, 0, 1);
        due("WEARERS are kept all along", x.wore(0, -1), 0);
        bytes(x, 0, 0, 0, 0, 0);
        due("one that lacks", x.wore(0, -1), 0);
        bytes(x, 0, 0, 2, 0);
        due("no such NAME", x.wore(0, -1), 0);
        due("now does not matter", x.lend(0, 1), 0);
        bytes(x, 0, 9, 0, 0);
        due("as before", x.wore(0, -1), 2);
        NamesOnLoan five = land(1, 0, 1, 0, 1, 0, 1, 0, 1, 0);
        for (int k = 0; k < 5; k++) {
            five.mend(k, 2, 1);
        }
        five.row(0, 0, 0);
        due("five, one COAT each", five.wore(0, -1), 120);
        bytes(five, 0, 0, 0, 4, 1, 1, 3, 2, 2, 2);
        due("five, three are told", five.wore(0, -1), 2);
        due("five, the first of two", five.wore(0, 3), 0);
        NamesOnLoan y = land(1, 0, 1, 0, 1, 0, 1, 0, 1, 0, 1, 0);
        due("six, nothing", y.wore(0, -1), -11);
        y.row(0, 2, 3);
        due("six, ints", y.wore(0, -1), -12);
        y.row(0, 0, 3);
        due("six", y.wore(0, -1), -5);
        due("six, no NAME", y.wore(0, 6), -1);
    }

    private static void p25Drawn() {
        NamesOnLoan x = land(4, 2, 1, 9);
        int z = 77 * 1103515245 + 12345;
        int first = (z >>> 8) % 10;
        z = z * 1103515245 + 12345;
        int second = (z >>> 8) % 10;
        int rate1 = Math.max(0, 4 * first - 4);
        int rate2 = Math.max(0, 4 * second - 4);
        due("one winter of one DAY", x.drawn(77, 101, 0), 100 - rate1);
        due("one winter of two DAYS", x.drawn(77, 102, 0), 100 - rate1 - rate2);
        due("two winters of one DAY", x.drawn(77, 201, 0), 200 - rate1 - rate2);
        due("who goes out", x.drawn(77, 2099, 1), 2000);
        due("BURNT in all", x.drawn(77, 2099, -1), 20);
        due("drawn(1, 100, 0)", x.drawn(1, 100, 0), -1);
        due("drawn(1, 99, 0)", x.drawn(1, 99, 0), -1);
        due("drawn(1, 2100, 0)", x.drawn(1, 2100, 0), -1);
        due("drawn(1, 2101, 0)", x.drawn(1, 2101, 0), -1);
        due("drawn(1, -101, 0)", x.drawn(1, -101, 0), -1);
        due("drawn(1, 101, 2)", x.drawn(1, 101, 2), -1);
        due("drawn(1, 101, -2)", x.drawn(1, 101, -2), -1);
        due("a thought only", x.of(0, 11), 100);
        due("COLD stays", x.of(0, 4), 2);
        told(x, "c");
        due("by a law", x.drawn(77, 102, 1), 100 - first - second);
        x.person(1, 9);
        told(x, "s=4?99;0");
        due("one of three is BURNT", x.drawn(77, 302, -1), 3);
        told(x, "!c*7");
        int nulls = 0;
        int y = 5;
        for (int day = 0; day < 60; day++) {
            y = y * 1103515245 + 12345;
            nulls += (y >>> 8) % 10 == 0 ? 1 : 0;
        }
        due("DAYS of no COLD", x.drawn(5, 160, 0), Math.max(0, 100 - 7 * nulls));
        due("there are some", nulls > 0 ? 1 : 0, 1);
    }

    private static void p26Lend() {
        NamesOnLoan x = land(1, 0, 1, 0, 1, 0);
        x.mend(1, 2, 2);
        due("who wore it", x.lend(0, 1), 0);
        due("to its WEARER", x.lend(0, 1), 1);
        due("no lending", x.led(1), 1);
        due("may wear no more", x.lend(2, 1), -5);
        due("nothing is otherwise", x.of(2, 10), 2);
        due("given on", x.lend(0, 2), 1);
        due("two lendings", x.led(1), 2);
        due("home", x.lend(0, 0), 2);
        due("three lendings", x.led(1), 3);
        x.lend(0, 1);
        x.mend(1, 2, 1);
        due("to its WEARER who wears too many", x.lend(0, 1), 1);
        due("still no more", x.lend(2, 1), -5);
        due("one goes", x.lend(0, 0), 1);
        due("its COAT is worn by its own", x.lend(0, 1), -5);
        due("lend(3, 0)", x.lend(3, 0), -1);
        due("lend(0, 3)", x.lend(0, 3), -1);
        due("lend(-1, 0)", x.lend(-1, 0), -1);
        due("lend(0, -1)", x.lend(0, -1), -1);
    }

    private static void p27Pass() {
        NamesOnLoan x = land(4, 2, 5, 0);
        due("pass(0)", x.pass(0), -1);
        due("pass(100)", x.pass(100), -1);
        due("pass(-1)", x.pass(-1), -1);
        due("one DAY", x.pass(1), 186);
        due("LEFT of 0", x.of(0, 11), 96);
        due("LEFT of 1", x.of(1, 11), 90);
        due("nine more", x.pass(9), 60);
        due("0 at least", x.of(1, 11), 0);
        due("all", x.pass(99), 0);
        due("DAYS", x.led(0), 109);
        x.person(9, 0);
        due("one who came behind", x.of(2, 11), 100);
        due("nobody", new NamesOnLoan().pass(99), 0);
    }

    private static void p28Thaw() {
        NamesOnLoan x = lentOut();
        x.pass(2);
        int rest = x.of(0, 11);
        due("the minutes", x.thaw(), 3);
        for (int k = 0; k < 6; k++) {
            due("home " + k, x.of(k, 10), k);
        }
        due("LEFT stays", x.of(0, 11), rest);
        due("none is given", x.count(1), 0);
        due("again", x.thaw(), 0);
        due("THAWS", x.led(2), 2);
        due("no lendings of it", x.led(1), 5);
    }

    private static void p29Led() {
        NamesOnLoan x = land(5, 0, 1, 9);
        x.pass(4);
        x.lend(0, 1);
        x.lend(0, 1);
        x.lend(0, 0);
        x.thaw();
        due("DAYS", x.led(0), 4);
        due("lendings", x.led(1), 2);
        due("THAWS", x.led(2), 1);
        due("BURNT now", x.led(3), 0);
        x.pass(6);
        due("BURNT then", x.led(3), 1);
        due("led(-1)", x.led(-1), -1);
        due("led(4)", x.led(4), -1);
    }

    private static void p30And31Image() {
        NamesOnLoan x = land(5, 0, 1, 9);
        due("there is none", x.back(), -5);
        x.pass(3);
        x.lend(0, 1);
        x.owe(1, 7);
        due("image()", x.image(), 3);
        x.pass(4);
        x.thaw();
        x.owe(1, 5);
        x.owe(10, 5);
        x.person(9, 0);
        x.lend(2, 0);
        x.owe(2, 9);
        x.owe(20, 9);
        x.pass(1);
        x.mend(0, 0, 8);
        told(x, "3");
        due("back()", x.back(), 3);
        due("WEARER", x.of(0, 10), 1);
        due("LEFT", x.of(0, 11), 70);
        due("the debt", x.owe(1, 0), 7);
        due("the other debt", x.owe(10, 0), 0);
        due("one who came since, its WEARER", x.of(2, 10), 2);
        due("one who came since, LEFT", x.of(2, 11), 100);
        due("debts to it", x.owe(2, 0), 0);
        due("debts of it", x.owe(20, 0), 0);
        due("DAYS", x.led(0), 3);
        due("lendings", x.led(1), 1);
        due("THAWS", x.led(2), 0);
        due("numbers of mend() are not in it", x.of(0, 0), 8);
        due("nor THE LAW", x.burns(0), 3);
        due("nor PEOPLE", x.count(0), 3);
        x.thaw();
        due("it stays an image", x.back(), 3);
        due("given again", x.count(1), 1);
        x.pass(1);
        due("a later image", x.image(), 4);
        x.pass(9);
        due("the later one is laid back", x.back(), 4);
    }

    private static void p32And33Undo() {
        NamesOnLoan x = land(5, 0, 1, 9);
        x.mend(0, 0, 5);
        due("the same number is no change", x.count(3), 0);
        due("none to undo", x.undo(), -5);
        x.mend(0, 0, 6);
        x.mend(0, 4, 7);
        x.mend(1, 3, 1);
        due("three", x.count(3), 3);
        due("undo", x.undo(), 2);
        due("HOUSE", x.of(1, 3), 0);
        due("undo again", x.undo(), 1);
        due("COLD", x.of(0, 4), 2);
        due("redo", x.redo(), 1);
        due("COLD again", x.of(0, 4), 7);
        due("the same number keeps what may be redone", x.mend(0, 4, 7), 7);
        due("a BAD one, too", x.mend(0, 4, 10), -1);
        due("deeds, too", x.pass(1), 158);
        due("redo the last", x.redo(), 0);
        due("HOUSE again", x.of(1, 3), 1);
        due("none to redo", x.redo(), -5);
        x.undo();
        x.mend(0, 5, 3);
        due("another came behind", x.redo(), -5);
        due("three changes", x.count(3), 3);
        for (int k = 0; k < 60; k++) {
            x.mend(1, 1, k % 9);
        }
        due("forty at most", x.count(3), 40);
        for (int k = 39; k >= 0; k--) {
            due("undo to " + k, x.undo(), k);
            due("OUT behind undo to " + k, x.of(1, 1), (k + 19) % 9);
        }
        due("no more", x.undo(), -5);
        due("the oldest stay", x.of(1, 1), 1);
        due("FIRE stays", x.of(0, 5), 3);
        for (int k = 39; k >= 0; k--) {
            due("redo to " + k, x.redo(), k);
            due("OUT behind redo to " + k, x.of(1, 1), (59 - k) % 9);
        }
        due("no more to redo", x.redo(), -5);
        due("the latest", x.of(1, 1), 5);
    }

    private static void p34Body() {
        NamesOnLoan x = new NamesOnLoan();
        due("body(-1)", x.body(-1), -1);
        due("body(8)", x.body(8), -1);
        for (int k = 0; k < 50; k++) {
            due("body no " + k, x.body(k % 8), k);
        }
        due("FULL", x.body(0), -3);
        due("BAD ahead of FULL", x.body(8), -1);
        due("fifty", x.count(4), 50);
    }

    private static void acts(NamesOnLoan x, int body, int act, int want, int... trace) {
        String told = "act(" + body + ", " + act + ", 5)";
        due(told, x.act(body, act, 5), want);
        due(told + " ran", x.count(5), trace.length);
        for (int k = 0; k < trace.length; k++) {
            due(told + " trace " + k, x.trace(k), trace[k]);
        }
        due(told + " trace behind", x.trace(trace.length), -1);
        due(told + " trace ahead", x.trace(-1), -1);
    }

    private static void p35And36Act() {
        NamesOnLoan x = new NamesOnLoan();
        for (int kind = 0; kind < 8; kind++) {
            x.body(kind);
        }
        acts(x, 0, 0, 5, 1);
        acts(x, 0, 1, 10, 10, 1);
        acts(x, 0, 2, 5, 11);
        acts(x, 0, 3, 9, 2, 10, 1, 11);
        acts(x, 1, 0, 9, 20, 1);
        acts(x, 1, 1, 18, 10, 20, 1);
        acts(x, 1, 2, 4, 11);
        acts(x, 1, 3, 18, 2, 10, 20, 1, 11);
        acts(x, 2, 0, 7, 1);
        acts(x, 2, 1, -14, 30, 10, 1);
        acts(x, 2, 2, 7, 11);
        acts(x, 2, 3, -17, 2, 30, 10, 1, 11);
        acts(x, 3, 0, 8, 1);
        acts(x, 3, 1, -18, 41, 30, 10, 1);
        acts(x, 3, 2, 18, 40, 11);
        acts(x, 3, 3, -24, 2, 41, 30, 10, 1, 40, 11);
        acts(x, 4, 0, 12, 20, 1);
        acts(x, 4, 1, 24, 10, 20, 1);
        acts(x, 4, 2, -8, 50, 11, 20, 1);
        acts(x, 4, 3, 28, 2, 10, 20, 1, 50, 11, 20, 1);
        acts(x, 5, 0, 10, 1);
        acts(x, 5, 1, -22, 41, 30, 10, 1);
        acts(x, 5, 2, 0, 40, 11);
        acts(x, 5, 3, -37, 60, 2, 41, 30, 10, 1, 40, 11);
        acts(x, 6, 0, 22, 70, 1);
        acts(x, 6, 1, 44, 10, 70, 1);
        acts(x, 6, 2, 3, 11);
        acts(x, 6, 3, 37, 2, 10, 70, 1, 11);
        acts(x, 7, 0, 15, 20, 1);
        acts(x, 7, 1, 23, 80, 10, 20, 1, 50, 11, 20, 1);
        acts(x, 7, 2, -10, 50, 11, 20, 1);
        acts(x, 7, 3, 28, 81, 2, 80, 10, 20, 1, 50, 11, 20, 1, 50, 11, 20, 1);
        due("no such NAME", x.act(8, 0, 5), 0);
        due("no TRACE then", x.trace(0), -1);
        due("none ran", x.count(5), 0);
        x.act(0, 0, 5);
        due("no such ACT", x.act(0, 4, 5), 0);
        due("no TRACE then, either", x.trace(0), -1);
        due("ACT -1", x.act(0, -1, 5), 0);
        due("NAME -1", x.act(-1, 0, 5), 0);
        due("it wraps", x.act(6, 0, MAX), (MAX + 6) * 2);
        due("it wraps below", x.act(2, 1, MIN), -((MIN + 2) * 2));
    }

    private static void p37Keep() {
        NamesOnLoan x = new NamesOnLoan();
        due("no such NAME", x.keep(0, 0), -1);
        due("nothing", x.keep(0, -1), 1);
        due("keep(0, -2)", x.keep(0, -2), -1);
        x.body(3);
        due("keep(-1, 0)", x.keep(-1, 0), -1);
        due("keep(6, 0)", x.keep(6, 0), -1);
        due("keep(5, 0)", x.keep(5, 0), 1);
        due("it holds it", x.taken(5, 3), 3);
        x.row(5, 0, 1);
        due("a ROW instead", x.taken(5, 3), -12);
        due("a NAME instead", x.keep(5, 0), 1);
        due("no ROW", x.put(5, 0, 1), -12);
        due("nothing instead", x.keep(5, -1), 1);
        due("nothing is there", x.taken(5, 3), -11);
    }

    private static void p38Row() {
        NamesOnLoan x = new NamesOnLoan();
        due("row(-1, 0, 1)", x.row(-1, 0, 1), -1);
        due("row(6, 0, 1)", x.row(6, 0, 1), -1);
        due("row(0, -1, 1)", x.row(0, -1, 1), -1);
        due("row(0, 5, 1)", x.row(0, 5, 1), -1);
        due("row(0, 0, 61)", x.row(0, 0, 61), -1);
        due("row(0, 0, -1)", x.row(0, 0, -1), -14);
        due("row(0, 0, MIN)", x.row(0, 0, MIN), -14);
        due("BAD ahead of -14", x.row(0, 5, -1), -1);
        due("nothing yet", x.put(0, 0, 1), -11);
        for (int sort = 0; sort < 5; sort++) {
            due("60 of " + sort, x.row(0, sort, 60), 1);
            for (int i = 0; i < 60; i += 2) {
                due("0 at first", x.element(0, i), 0);
                x.put(0, i, 1);
            }
            due("no 61st", x.element(0, 60), Long.MIN_VALUE);
        }
        due("of none", x.row(0, 0, 0), 1);
        due("no first", x.put(0, 0, 1), -13);
        x.row(0, 0, 2);
        x.put(0, 0, 9);
        due("refused", x.row(0, 0, -3), -14);
        due("nothing changed", x.element(0, 0), 9);
    }

    private static void p39And40Put() {
        NamesOnLoan x = new NamesOnLoan();
        due("put(-1, 0, 1)", x.put(-1, 0, 1), -1);
        due("put(6, 0, 1)", x.put(6, 0, 1), -1);
        due("put(0, 0, 1)", x.put(0, 0, 1), -11);
        due("element(-1, 0)", x.element(-1, 0), Long.MIN_VALUE);
        due("element(6, 0)", x.element(6, 0), Long.MIN_VALUE);
        x.body(0);
        x.keep(1, 0);
        due("a NAME", x.put(1, 0, 1), -12);
        due("a NAME's element", x.element(1, 0), Long.MIN_VALUE);
        long v = 0x123456789ABCDEF0L;
        long[] want = {(byte) v, (short) v, (int) v, v, 1};
        for (int sort = 0; sort < 5; sort++) {
            x.row(0, sort, 3);
            due("put", x.put(0, 2, v), 1);
            due("its lowest bits", x.element(0, 2), want[sort]);
            due("put(0, 3, 1)", x.put(0, 3, 1), -13);
            due("put(0, -1, 1)", x.put(0, -1, 1), -13);
            due("put(0, MAX, 1)", x.put(0, MAX, 1), -13);
            due("element(0, 3)", x.element(0, 3), Long.MIN_VALUE);
            due("element(0, -1)", x.element(0, -1), Long.MIN_VALUE);
            x.put(0, 2, 0);
            due("0 again", x.element(0, 2), 0);
            x.put(0, 2, -1);
            due("-1", x.element(0, 2), sort == 4 ? 1 : -1);
        }
        x.row(0, 4, 1);
        x.put(0, 0, 1L << 40);
        due("a boolean looks at all bits", x.element(0, 0), 1);
    }

    private static void p41Shift() {
        NamesOnLoan x = new NamesOnLoan();
        due("shift(-1, ..)", x.shift(-1, 0, 0, 0, 0), -1);
        due("shift(.., 6, ..)", x.shift(0, 0, 6, 0, 0), -1);
        due("nothing", x.shift(0, 0, 1, 0, 0), -11);
        bytes(x, 0, 1, 2, 3, 4, 5);
        due("nothing there", x.shift(0, 0, 1, 0, 0), -11);
        due("nothing here", x.shift(1, 0, 0, 0, 0), -11);
        x.body(0);
        x.keep(2, 0);
        due("a NAME", x.shift(0, 0, 2, 0, 0), -12);
        due("of a NAME", x.shift(2, 0, 0, 0, 0), -12);
        due("NAME to NAME", x.shift(2, 0, 2, 0, 0), -12);
        due("-11 ahead of -12", x.shift(2, 0, 1, 0, 0), -11);
        x.row(1, 1, 5);
        due("unlike sorts", x.shift(0, 0, 1, 0, 9), -12);
        x.row(1, 0, 4);
        due("to another", x.shift(0, 1, 1, 0, 3), 3);
        due("first", x.element(1, 0), 2);
        due("third", x.element(1, 2), 4);
        due("fourth", x.element(1, 3), 0);
        due("in itself, on", x.shift(0, 0, 0, 1, 4), 4);
        int[] want = {1, 1, 2, 3, 4};
        for (int k = 0; k < 5; k++) {
            due("as they were " + k, x.element(0, k), want[k]);
        }
        due("in itself, back", x.shift(0, 1, 0, 0, 4), 4);
        int[] then = {1, 2, 3, 4, 4};
        for (int k = 0; k < 5; k++) {
            due("back as they were " + k, x.element(0, k), then[k]);
        }
        due("none, at the end", x.shift(0, 5, 1, 4, 0), 0);
        due("none, behind the end", x.shift(0, 6, 1, 0, 0), -13);
        due("too many here", x.shift(0, 3, 1, 0, 3), -13);
        due("too many there", x.shift(0, 0, 1, 2, 3), -13);
        due("from -1", x.shift(0, -1, 1, 0, 1), -13);
        due("to -1", x.shift(0, 0, 1, -1, 1), -13);
        due("sums that wrap", x.shift(0, MAX, 1, MAX, MAX), -13);
        due("nothing changed", x.element(1, 0), 2);
    }

    private static void p42Taken() {
        NamesOnLoan x = new NamesOnLoan();
        due("taken(-1, 0)", x.taken(-1, 0), -1);
        due("taken(6, 0)", x.taken(6, 0), -1);
        due("taken(0, 8)", x.taken(0, 8), -1);
        due("taken(0, -1)", x.taken(0, -1), -1);
        due("nothing", x.taken(0, 0), -11);
        x.row(0, 0, 1);
        due("a ROW", x.taken(0, 0), -12);
        int[][] under = {{0}, {0, 1}, {0, 2}, {0, 2, 3}, {0, 1, 4}, {0, 2, 3, 5}, {0, 6}, {0, 1, 4, 7}};
        for (int kind = 0; kind < 8; kind++) {
            x.body(kind);
            x.keep(0, kind);
            for (int k = 0; k < 8; k++) {
                boolean is = false;
                for (int above : under[kind]) {
                    is |= above == k;
                }
                due("KIND " + kind + " for " + k, x.taken(0, k), is ? kind : -12);
            }
        }
    }

    private static void p43Count() {
        NamesOnLoan x = lentOut();
        due("PEOPLE", x.count(0), 6);
        due("given", x.count(1), 5);
        x.feed('1');
        due("bytes", x.count(2), 1);
        x.mend(0, 0, 5);
        due("changes", x.count(3), 1);
        x.body(7);
        due("BODIES", x.count(4), 1);
        x.act(0, 3, 1);
        due("bodies that ran", x.count(5), 14);
        due("count(6)", x.count(6), -1);
        due("count(-1)", x.count(-1), -1);
    }
}
