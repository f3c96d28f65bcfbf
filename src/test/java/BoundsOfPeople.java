/** Promises 1 to 6 and 8: the ranges of all numbers, who may come, what may be mended and told. */
final class BoundsOfPeople {
    private static final int MIN = Sentences.MIN;
    private static final int MAX = Sentences.MAX;
    private static final int BAD = Sentences.BAD;
    private static final int FULL = Sentences.FULL;
    private static final int STATE = Sentences.STATE;
    private static final int OTHER_KIND = Sentences.OTHER_KIND;

    private BoundsOfPeople() {
    }

    static void run() {
        p1NothingAtFirst();
        p2EightPeople();
        p2Syllables();
        p2Out();
        p2Coats();
        p2House();
        p2Wearer();
        p2Left();
        p3Shelves();
        p3HowMany();
        p3OtherRows();
        p3MissingRow();
        p3RowsThatEnd();
        p3Places();
        p3OneThatIsNotSo();
        p3UntilFull();
        p4Ranges();
        p4Numbers();
        p4Whats();
        p4ColdAndFire();
        p4WhatItWas();
        p5Numbers();
        p5Whats();
        p5Cracked();
        p6Bytes();
        p6FullTape();
        p8Numbers();
        p8HouseStaysIn();
        p8FireOfAHouse();
        p8AtLeast0();
        p8Most();
    }

    private static void p1NothingAtFirst() {
        Sentences.of(1, "A cold province without people.");
        NamesOnLoan x = Lands.empty();
        for (int what = 0; what < 6; what++) {
            Sentences.due("count(" + what + ")", x.count(what), 0);
        }
        for (int number = -1; number < 9; number++) {
            Sentences.due("of(" + number + ", 0)", x.of(number, 0), BAD);
            Sentences.due("of(" + number + ", 10)", x.of(number, 10), BAD);
        }
        Sentences.of(1, "COLD (0 .. 9; 2 at first)");
        Sentences.due("of(0, 4)", x.of(0, 4), 2);
        Sentences.of(1, "FIRE (0 .. 9; 0 at first");
        Sentences.due("of(0, 5)", x.of(0, 5), 0);
    }

    private static void p2EightPeople() {
        Sentences.of(2, "PEOPLE 0 .. 7, as they come");
        NamesOnLoan x = Lands.empty();
        for (int k = 0; k < 8; k++) {
            Sentences.due("person no " + k, x.person(k + 1, k), k);
            Sentences.due("count(0)", x.count(0), k + 1);
            Sentences.due("SYLLABLES", x.of(k, 0), k + 1);
            Sentences.due("OUT", x.of(k, 1), k);
        }
        Sentences.of(2, "BAD, FULL: 8");
        Sentences.refused(Lands::full, "person(1, 0)", y -> y.person(1, 0), FULL);
        Sentences.refused(Lands::full, "person(9, 9)", y -> y.person(9, 9), FULL);
        Sentences.of(2, "Answers, of several the one named first: BAD");
        Sentences.refused(Lands::full, "person(0, 0)", y -> y.person(0, 0), BAD);
        Sentences.refused(Lands::full, "person(10, 0)", y -> y.person(10, 0), BAD);
        Sentences.refused(Lands::full, "person(1, -1)", y -> y.person(1, -1), BAD);
        Sentences.refused(Lands::full, "person(1, 10)", y -> y.person(1, 10), BAD);
    }

    private static void p2Syllables() {
        Sentences.of(2, "SYLLABLES of the NAME (1 .. 9)");
        NamesOnLoan x = Lands.land(1, 0, 9, 0);
        Sentences.due("1 SYLLABLE", x.of(0, 0), 1);
        Sentences.due("9 SYLLABLES", x.of(1, 0), 9);
        for (int s : new int[] {0, 10, -1, MIN, MAX, 257, 65537}) {
            Sentences.refused(Lands::some, "person(" + s + ", 0)", y -> y.person(s, 0), BAD);
        }
    }

    private static void p2Out() {
        Sentences.of(2, "OUT of one (0 .. 9: how often out of doors a day)");
        NamesOnLoan x = Lands.land(1, 0, 1, 9);
        Sentences.due("OUT 0", x.of(0, 1), 0);
        Sentences.due("OUT 9", x.of(1, 1), 9);
        for (int o : new int[] {-1, 10, MIN, MAX, 256}) {
            Sentences.refused(Lands::some, "person(1, " + o + ")", y -> y.person(1, o), BAD);
        }
    }

    private static void p2Coats() {
        Sentences.of(2, "COATS of one (1 .. 9; 4 at first: how many NAMES it may wear)");
        NamesOnLoan x = Lands.alike(5);
        Sentences.due("COATS", x.of(0, 2), 4);
        for (int k = 1; k < 4; k++) {
            Sentences.due("lend(" + k + ", 0)", x.lend(k, 0), k);
        }
        Sentences.due("a fifth NAME", x.lend(4, 0), STATE);
        Sentences.due("four NAMES", x.of(0, 13), 4);
    }

    private static void p2House() {
        Sentences.of(2, "HOUSE (0, 1; 0 at first");
        Sentences.due("HOUSE", Lands.land(1, 9).of(0, 3), 0);
    }

    private static void p2Wearer() {
        Sentences.of(2, "WEARER (one of the PEOPLE; its own at first)");
        NamesOnLoan x = Lands.alike(8);
        for (int k = 0; k < 8; k++) {
            Sentences.due("WEARER of " + k, x.of(k, 10), k);
            Sentences.due("NAMES that " + k + " wears", x.of(k, 13), 1);
        }
    }

    private static void p2Left() {
        Sentences.of(2, "LEFT (0 .. 999; 100 at first)");
        NamesOnLoan x = Lands.land(5, 0);
        x.pass(99);
        x.person(9, 0);
        Sentences.due("LEFT of the first", x.of(0, 11), 0);
        Sentences.due("LEFT of one who comes later", x.of(1, 11), 100);
    }

    private static void p3Shelves() {
        Sentences.of(3, "SHELVES 0 .. 5");
        for (int shelf : new int[] {-1, 6, MIN, MAX}) {
            Sentences.refused(Lands::some, "people(" + shelf + ", 0, 1)", x -> x.people(shelf, 0, 1), BAD);
        }
        for (int shelf = 0; shelf < 6; shelf++) {
            NamesOnLoan x = Lands.empty();
            Lands.bytes(x, shelf, 7, 8, 9);
            Sentences.due("people(" + shelf + ", 0, 1)", x.people(shelf, 0, 1), 1);
        }
    }

    private static void p3HowMany() {
        Sentences.of(3, "n (1 .. 8) of them");
        for (int n : new int[] {0, -1, 9, MIN, MAX}) {
            Sentences.refused(Lands::some, "people(0, 0, " + n + ")", x -> x.people(0, 0, n), BAD);
        }
        for (int n = 1; n <= 8; n++) {
            NamesOnLoan x = Lands.empty();
            x.row(0, 0, 60);
            for (int i = 0; i < 60; i++) {
                x.put(0, i, i / 3 % 9 + 1);
            }
            Sentences.due("people(0, 0, " + n + ")", x.people(0, 0, n), n);
            Sentences.due("count(0)", x.count(0), n);
            Sentences.due("COATS of the last", x.of(n - 1, 2), n);
        }
    }

    private static void p3OtherRows() {
        Sentences.of(3, "-12 (no ROW of bytes");
        Sentences.refused(Lands::some, "of a NAME", x -> x.people(1, 0, 1), OTHER_KIND);
        Sentences.refused(Lands::some, "of shorts", x -> x.people(2, 0, 1), OTHER_KIND);
        Sentences.refused(Lands::some, "of longs", x -> x.people(3, 0, 1), OTHER_KIND);
        Sentences.refused(Lands::some, "of booleans", x -> x.people(4, 0, 1), OTHER_KIND);
        NamesOnLoan y = Lands.empty();
        Lands.row(y, 0, 2, 1, 1, 1);
        Sentences.due("of ints", y.people(0, 0, 1), OTHER_KIND);
        y.row(0, 2, 0);
        Sentences.due("of no ints", y.people(0, 0, 1), OTHER_KIND);
        Sentences.due("nobody came", y.count(0), 0);
        NamesOnLoan full = Lands.alike(8);
        full.row(0, 3, 3);
        Sentences.due("-12, when PEOPLE are FULL, too", full.people(0, 0, 1), OTHER_KIND);
        Sentences.due("-12, behind the end, too", full.people(0, 60, 1), OTHER_KIND);
        Sentences.of(3, "BAD, -12 (no ROW of bytes");
        Sentences.refused(Lands::some, "BAD ahead of -12", x -> x.people(1, 0, 9), BAD);
    }

    private static void p3MissingRow() {
        Sentences.of(3, "a SHELF that holds nothing is missing");
        for (int n : new int[] {1, 8}) {
            Sentences.refused(Lands::some, "people(5, 0, " + n + ")", x -> x.people(5, 0, n), 0);
        }
        NamesOnLoan y = Lands.empty();
        Lands.bytes(y, 0, 1, 1, 1);
        y.keep(0, -1);
        Sentences.due("a row that was laid away", y.people(0, 0, 1), 0);
        Sentences.due("nobody came", y.count(0), 0);
    }

    private static void p3RowsThatEnd() {
        Sentences.of(3, "ends (within a three, too)");
        for (int size = 0; size <= 10; size++) {
            NamesOnLoan x = Lands.empty();
            x.row(0, 0, size);
            for (int i = 0; i < size; i++) {
                x.put(0, i, i + 1 > 9 ? 1 : i + 1);
            }
            Sentences.due("a row of " + size, x.people(0, 0, 8), size / 3);
            Sentences.due("count(0) by a row of " + size, x.count(0), size / 3);
        }
    }

    private static void p3Places() {
        Sentences.of(3, "from place i on");
        for (int i = 0; i <= 9; i++) {
            NamesOnLoan x = Lands.empty();
            Lands.bytes(x, 0, 1, 2, 3, 4, 5, 6, 7);
            int came = Math.max(0, (7 - i) / 3);
            Sentences.due("people(0, " + i + ", 8)", x.people(0, i, 8), came);
            Sentences.due("SYLLABLES of the first from " + i, x.of(0, 0), came > 0 ? i + 1 : BAD);
        }
        Sentences.of(3, "it ends where the row is missing, ends");
        for (int i : new int[] {-1, -2, -3, MIN, MIN + 2, 60, MAX - 2, MAX - 1, MAX}) {
            Sentences.refused(Lands::some, "people(0, " + i + ", 8)", x -> x.people(0, i, 8), 0);
        }
    }

    private static void p3OneThatIsNotSo() {
        Sentences.of(3, "one is not so");
        long[][] notSo = {{0, 5, 5}, {10, 5, 5}, {-1, 5, 5}, {5, -1, 5}, {5, 10, 5}, {5, 5, 0}, {5, 5, 10}, {5, 5, -1},
            {127, 5, 5}, {5, -128, 5}};
        for (long[] three : notSo) {
            NamesOnLoan x = Lands.empty();
            Lands.bytes(x, 0, 1, 0, 1, 9, 9, 9, three[0], three[1], three[2], 5, 5, 5);
            String told = "with " + three[0] + ", " + three[1] + ", " + three[2];
            Sentences.due(told, x.people(0, 0, 8), 2);
            Sentences.due(told + ": those ahead came", x.count(0), 2);
            Sentences.due(told + ": COATS of the second", x.of(1, 2), 9);
            Sentences.due(told + ": at once", x.people(0, 6, 8), 0);
            Sentences.due(told + ": no more came", x.count(0), 2);
        }
    }

    private static void p3UntilFull() {
        Sentences.of(3, "or PEOPLE are FULL: those ahead came");
        for (int there = 0; there <= 8; there++) {
            NamesOnLoan x = Lands.alike(there);
            x.row(0, 0, 60);
            for (int i = 0; i < 60; i++) {
                x.put(0, i, 2);
            }
            Sentences.due("with " + there + " there", x.people(0, 0, 8), 8 - there);
            Sentences.due("then", x.count(0), 8);
        }
        Sentences.refused(Lands::full, "people(0, 0, 1)", x -> x.people(0, 0, 1), 0);
    }

    private static final int[] LOW = {1, 0, 1, 0, 0, 0};
    private static final int[] HIGH = {9, 9, 9, 1, 9, 9};
    private static final String[] RANGES = {"SYLLABLES of the NAME (1 .. 9)", "OUT of one (0 .. 9", "COATS of one (1 .. 9",
        "HOUSE (0, 1", "COLD (0 .. 9", "FIRE (0 .. 9"};

    private static void p4Ranges() {
        for (int what = 0; what < 6; what++) {
            Sentences.of(4, RANGES[what]);
            int w = what;
            for (int v : new int[] {LOW[what] - 1, HIGH[what] + 1, MIN, MAX, 256 + HIGH[what]}) {
                Sentences.refused(Lands::some, "mend(0, " + what + ", " + v + ")", x -> x.mend(0, w, v), BAD);
            }
            NamesOnLoan x = Lands.alike(2);
            for (int v = LOW[what]; v <= HIGH[what]; v++) {
                x.mend(0, what, v);
                Sentences.due("of(0, " + what + ")", x.of(0, what), v);
            }
            for (int v = HIGH[what]; v >= LOW[what]; v--) {
                Sentences.due("mend(0, " + what + ", " + v + ")", x.mend(0, what, v), Math.min(HIGH[what], v + 1));
            }
        }
    }

    private static void p4Numbers() {
        Sentences.of(4, "BAD (-1): no such number, or it is not as said");
        for (int what = 0; what < 4; what++) {
            int w = what;
            for (int number : new int[] {-1, 4, 8, MIN, MAX}) {
                Sentences.refused(Lands::some, "mend(" + number + ", " + what + ", 1)", x -> x.mend(number, w, 1), BAD);
            }
            Sentences.due("the last one", Lands.alike(8).mend(7, what, 1) >= 0 ? 1 : 0, 1);
            Sentences.due("without people", Lands.empty().mend(0, what, 1), BAD);
        }
    }

    private static void p4Whats() {
        Sentences.of(4, "BAD (-1): no such number, or it is not as said");
        for (int what : new int[] {-1, 6, 7, 10, 11, 12, 13, MIN, MAX}) {
            Sentences.refused(Lands::some, "mend(0, " + what + ", 1)", x -> x.mend(0, what, 1), BAD);
        }
    }

    private static void p4ColdAndFire() {
        Sentences.of(4, "COLD (4), FIRE (5; number 0 for these)");
        for (int what = 4; what < 6; what++) {
            int w = what;
            for (int number : new int[] {1, 3, -1, 4, MIN, MAX}) {
                Sentences.refused(Lands::some, "mend(" + number + ", " + what + ", 1)", x -> x.mend(number, w, 1), BAD);
            }
            Sentences.due("without people", Lands.empty().mend(0, what, 9), what == 4 ? 2 : 0);
        }
    }

    private static void p4WhatItWas() {
        Sentences.of(4, "becomes v: what it was");
        NamesOnLoan x = Lands.land(3, 5, 4, 6);
        int[] was = {3, 5, 4, 0, 2, 0};
        for (int what = 0; what < 6; what++) {
            Sentences.due("mend(0, " + what + ", 1)", x.mend(0, what, 1), was[what]);
            Sentences.due("mend(0, " + what + ", 1) again", x.mend(0, what, 1), 1);
        }
        Sentences.due("the other's SYLLABLES", x.of(1, 0), 4);
        Sentences.due("the other's OUT", x.of(1, 1), 6);
        Sentences.due("the other's COATS", x.of(1, 2), 4);
        Sentences.due("the other's HOUSE", x.of(1, 3), 0);
    }

    private static void p5Numbers() {
        Sentences.of(5, "BAD (-1): no such number, or it is not as said");
        for (int what : new int[] {0, 1, 2, 3, 10, 11, 12, 13}) {
            for (int number : new int[] {-1, 4, 8, MIN, MAX}) {
                Sentences.due("of(" + number + ", " + what + ")", Lands.some().of(number, what), BAD);
            }
        }
        for (int what = 4; what < 6; what++) {
            for (int number : new int[] {-1, 1, 4, MIN, MAX}) {
                Sentences.due("of(" + number + ", " + what + ")", Lands.some().of(number, what), BAD);
            }
        }
        NamesOnLoan x = Lands.alike(8);
        Sentences.due("LEFT of 7", x.of(7, 11), 100);
        Sentences.due("NAMES of 7", x.of(7, 13), 1);
    }

    private static void p5Whats() {
        Sentences.of(5, "As of mend() (0 to 5); of a NAME 10 WEARER, 11 LEFT, 12 whether it is CRACKED; of one 13");
        for (int what : new int[] {-1, 6, 7, 8, 9, 14, MIN, MAX}) {
            Sentences.due("of(0, " + what + ")", Lands.some().of(0, what), BAD);
        }
        for (int what = -1; what < 15; what++) {
            int w = what;
            Sentences.leaves(Lands::some, "of(0, " + what + ")", x -> x.of(0, w));
        }
    }

    private static void p5Cracked() {
        Sentences.of(5, "A NAME is CRACKED, if LEFT is less than 10 times SYLLABLES");
        for (int s = 1; s <= 9; s++) {
            NamesOnLoan x = Lands.land(s, 0);
            Lands.law(x, "1");
            int days = 100 - 10 * s;
            x.pass(days);
            Sentences.due("LEFT of " + s + " SYLLABLES", x.of(0, 11), 10 * s);
            Sentences.due("as much: not CRACKED", x.of(0, 12), 0);
            x.pass(1);
            Sentences.due("one less: CRACKED", x.of(0, 12), 1);
            x.pass(99);
            Sentences.due("BURNT: CRACKED, too", x.of(0, 12), 1);
        }
    }

    private static void p6Bytes() {
        Sentences.of(6, "A byte (0 .. 255) comes to THE TAPE: how many it has");
        for (int letter : new int[] {-1, 256, -128, MIN, MAX, 256 + '1'}) {
            Sentences.refused(Lands::some, "feed(" + letter + ")", x -> x.feed(letter), BAD);
        }
        NamesOnLoan x = Lands.empty();
        Sentences.due("feed(0)", x.feed(0), 1);
        Sentences.due("feed(255)", x.feed(255), 2);
        Sentences.due("feed(128)", x.feed(128), 3);
        Sentences.due("count(2)", x.count(2), 3);
    }

    private static void p6FullTape() {
        Sentences.of(6, "BAD, FULL (120)");
        NamesOnLoan x = Lands.empty();
        for (int k = 1; k <= 120; k++) {
            Sentences.due("feed no " + k, x.feed(k == 1 ? 's' : k % 2 == 0 ? '+' : '0'), k);
        }
        Sentences.refused(Lands::full, "a 121st", y -> y.feed('1'), FULL);
        Sentences.refused(Lands::full, "a 121st of 255", y -> y.feed(255), FULL);
        Sentences.of(6, "Answers, of several the one named first: BAD");
        Sentences.refused(Lands::full, "a 121st of 256", y -> y.feed(256), BAD);
        Sentences.refused(Lands::full, "a 121st of -1", y -> y.feed(-1), BAD);
    }

    private static void p8Numbers() {
        Sentences.of(8, "How much of a NAME is burnt in a DAY as it is now. BAD.");
        for (int name : new int[] {-1, 4, 8, MIN, MAX}) {
            Sentences.due("burns(" + name + ")", Lands.some().burns(name), BAD);
        }
        Sentences.due("without people", Lands.empty().burns(0), BAD);
        Sentences.due("the eighth", Lands.alike(8).burns(7), 2);
        Sentences.leaves(Lands::some, "burns(0)", x -> x.burns(0));
    }

    private static void p8HouseStaysIn() {
        Sentences.of(8, "one that stays in, OUT counts as 0");
        NamesOnLoan x = Lands.land(5, 4);
        Sentences.due("out of doors", x.burns(0), 2);
        x.mend(0, 3, 1);
        Sentences.due("in a HOUSE", x.burns(0), 10);
        Sentences.due("OUT is told as it is", x.of(0, 1), 4);
        Lands.law(x, "o");
        Sentences.due("o in a HOUSE", x.burns(0), 0);
        x.mend(0, 3, 0);
        Sentences.due("o out of doors", x.burns(0), 4);
    }

    private static void p8FireOfAHouse() {
        Sentences.of(8, "f FIRE if the WEARER is a HOUSE else 0");
        NamesOnLoan x = Lands.land(5, 0, 5, 0);
        x.mend(0, 5, 9);
        Sentences.due("no HOUSE", x.burns(0), 10);
        x.mend(0, 3, 1);
        Sentences.due("a HOUSE", x.burns(0), 1);
        x.lend(0, 1);
        Sentences.due("the owner is a HOUSE, the WEARER is not", x.burns(0), 11);
        x.thaw();
        x.lend(1, 0);
        Sentences.due("the WEARER is a HOUSE, the owner is not", x.burns(1), 2);
    }

    private static void p8AtLeast0() {
        Sentences.of(8, "and n less 1; 0 at least");
        NamesOnLoan x = Lands.land(9, 9);
        Sentences.due("18 less 18", x.burns(0), 0);
        x.mend(0, 0, 8);
        Sentences.due("16 less 18", x.burns(0), 0);
        x.mend(0, 4, 0);
        Sentences.due("0 less 18", x.burns(0), 0);
        x.mend(0, 1, 0);
        Sentences.due("0 less 0", x.burns(0), 0);
    }

    private static void p8Most() {
        Sentences.of(8, "c times s, less o times 2, less f, and n less 1");
        NamesOnLoan x = Lands.alike(8);
        x.mend(0, 0, 9);
        x.mend(0, 4, 9);
        x.mend(0, 2, 9);
        Sentences.due("alone", x.burns(0), 81);
        for (int k = 1; k < 8; k++) {
            x.lend(k, 0);
            Sentences.due("of " + (k + 1) + " NAMES", x.burns(0), 81 + k);
        }
    }
}
