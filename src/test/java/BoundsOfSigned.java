/** Promises 23 to 25: what was signed, who wore what, and winters by draws. */
final class BoundsOfSigned {
    private static final int MIN = Sentences.MIN;
    private static final int MAX = Sentences.MAX;
    private static final int BAD = Sentences.BAD;
    private static final int NOT = Sentences.NOT;
    private static final int STATE = Sentences.STATE;
    private static final int MISSING = Sentences.MISSING;
    private static final int OTHER_KIND = Sentences.OTHER_KIND;
    private static final int[] NO_SHELVES = {-1, 6, MIN, MAX};

    private BoundsOfSigned() {
    }

    static void run() {
        p23Refused();
        p23NothingSigned();
        p23Days();
        p23BurntByThen();
        p23WhoWasThere();
        p23Names();
        p23Lacks();
        p23TheFirst();
        p24Refused();
        p24FivePeople();
        p24NoPeople();
        p24Coats();
        p24NotSo();
        p24Days();
        p24KeptAllAlong();
        p25Winters();
        p25Names();
        p25Seeds();
        p25SeedGoesOn();
        p25AtLeast0();
        p25Burnt();
        p25InThought();
    }

    private static NamesOnLoan signed(NamesOnLoan x, long... bytes) {
        Lands.bytes(x, 0, bytes);
        return x;
    }

    private static void p23Refused() {
        Sentences.of(23, "JUDGED. BAD, -11, -12 (no ROW of bytes); NOT.");
        for (int shelf : NO_SHELVES) {
            Sentences.refused(Lands::some, "judge(" + shelf + ")", x -> x.judge(shelf), BAD);
        }
        Sentences.refused(Lands::some, "nothing", x -> x.judge(5), MISSING);
        Sentences.refused(Lands::some, "a NAME", x -> x.judge(1), OTHER_KIND);
        Sentences.refused(Lands::some, "shorts", x -> x.judge(2), OTHER_KIND);
        Sentences.refused(Lands::some, "longs", x -> x.judge(3), OTHER_KIND);
        Sentences.refused(Lands::some, "booleans", x -> x.judge(4), OTHER_KIND);
        NamesOnLoan y = Lands.empty();
        y.row(0, 2, 3);
        Sentences.due("ints", y.judge(0), OTHER_KIND);
        y.row(0, 2, 0);
        Sentences.due("no ints", y.judge(0), OTHER_KIND);
        Sentences.leaves(Lands::some, "judge(0)", x -> x.judge(0));
    }

    private static void p23NothingSigned() {
        Sentences.of(23, "JUDGED: the first three that is not so");
        Sentences.due("an empty row", signed(Lands.alike(1)).judge(0), NOT);
        Sentences.due("an empty row, without people", signed(Lands.empty()).judge(0), NOT);
        Sentences.due("a three, without people", signed(Lands.empty(), 0, 0, 0).judge(0), 0);
    }

    private static void p23Days() {
        Sentences.of(23, "by threes a DAY (0 .. 99)");
        for (int day : new int[] {0, 1, 98, 99}) {
            Sentences.due("DAY " + day, signed(Lands.land(1, 9), day, 0, 0).judge(0), NOT);
        }
        for (int day : new int[] {-1, 100, 127, -128}) {
            Sentences.due("DAY " + day, signed(Lands.land(1, 9), day, 0, 0).judge(0), 0);
            Sentences.due("DAY " + day + ", the second", signed(Lands.land(1, 9), 99, 0, 0, day, 0, 0).judge(0), 1);
        }
    }

    private static void p23BurntByThen() {
        Sentences.of(23, "the NAME not BURNT as that many DAYS are over");
        NamesOnLoan x = Lands.alike(1);
        Lands.law(x, "1");
        Sentences.due("one is LEFT after 99", signed(x, 99, 0, 0).judge(0), NOT);
        x.pass(1);
        Sentences.due("none is LEFT after 99", signed(x, 99, 0, 0).judge(0), 0);
        Sentences.due("one is LEFT after 98", signed(x, 98, 0, 0).judge(0), NOT);
        Lands.law(x, "33");
        Sentences.due("none is LEFT after 3", signed(x, 2, 0, 0, 3, 0, 0).judge(0), 1);
        x.pass(3);
        Sentences.due("none is LEFT now", signed(x, 0, 0, 0).judge(0), 0);
        NamesOnLoan y = Lands.land(1, 0, 5, 0);
        Lands.law(y, "s*10");
        y.lend(0, 1);
        Sentences.due("each as it burns itself", signed(y, 9, 0, 1, 1, 1, 1).judge(0), NOT);
        Sentences.due("the second by then", signed(y, 9, 0, 1, 2, 1, 1).judge(0), 1);
        Sentences.due("the first by then", signed(y, 10, 0, 1, 1, 1, 1).judge(0), 0);
        NamesOnLoan z = unlikeLeft();
        z.lend(0, 1);
        Sentences.due("each by what is LEFT of itself", signed(z, 9, 0, 1, 4, 1, 1).judge(0), NOT);
        Sentences.due("the lesser one by then", signed(z, 9, 0, 1, 5, 1, 1).judge(0), 1);
        z.thaw();
        z.lend(1, 0);
        Sentences.due("the lesser one by the other's WEARER", signed(z, 9, 0, 0, 5, 1, 0).judge(0), 1);
    }

    /** Of 0 a hundred is LEFT, of 1 fifty, and each loses ten a DAY. */
    private static NamesOnLoan unlikeLeft() {
        NamesOnLoan x = Lands.land(1, 0, 5, 0);
        Lands.law(x, "s=5?50");
        x.pass(1);
        Lands.law(x, "10");
        return x;
    }

    private static void p23WhoWasThere() {
        Sentences.of(23, "one who was there (0 .. 7)");
        for (int one : new int[] {-1, 1, 2, 7, 8, 127, -128}) {
            Sentences.due("one " + one, signed(Lands.alike(2), 0, 0, one).judge(0), 0);
        }
        NamesOnLoan x = Lands.alike(8);
        Sentences.due("the eighth", signed(x, 0, 7, 7).judge(0), NOT);
        Sentences.of(23, "it must be the WEARER");
        x.lend(0, 7);
        Sentences.due("the WEARER", signed(x, 0, 0, 7).judge(0), NOT);
        Sentences.due("the owner", signed(x, 0, 0, 7, 0, 0, 0).judge(0), 1);
        NamesOnLoan y = Lands.alike(8);
        y.row(0, 0, 24);
        for (int k = 0; k < 8; k++) {
            y.lend(k, (k + 1) % 8);
            y.put(0, 3 * k + 1, k);
            y.put(0, 3 * k + 2, (k + 1) % 8);
        }
        Sentences.due("each is worn by the next", y.judge(0), NOT);
        y.put(0, 23, 7);
        Sentences.due("the last is not worn by its owner", y.judge(0), 7);
    }

    private static void p23Names() {
        Sentences.of(23, "by threes a DAY (0 .. 99), a NAME");
        for (int name : new int[] {-1, 2, 7, 8, 127, -128}) {
            Sentences.due("NAME " + name, signed(Lands.alike(2), 0, name, 0).judge(0), 0);
            Sentences.due("NAME " + name + " and the same one", signed(Lands.alike(2), 0, name, name).judge(0), 0);
        }
    }

    private static void p23Lacks() {
        Sentences.of(23, "one that lacks, too");
        for (int size = 0; size <= 60; size++) {
            NamesOnLoan x = Lands.alike(1);
            x.row(0, 0, size);
            Sentences.due("a row of " + size, x.judge(0), size % 3 == 0 ? NOT : size / 3);
        }
    }

    private static void p23TheFirst() {
        Sentences.of(23, "JUDGED: the first three that is not so");
        for (int three = 0; three < 20; three++) {
            NamesOnLoan x = Lands.alike(1);
            x.row(0, 0, 60);
            x.put(0, 3 * three + 2, 5);
            x.put(0, 59, 5);
            Sentences.due("the first of two", x.judge(0), three);
        }
    }

    private static void p24Refused() {
        Sentences.of(24, "WHO WORE: how many (name -1), the WEARER in the first (NOT). BAD, -11, -12, STATE.");
        for (int shelf : NO_SHELVES) {
            Sentences.refused(Lands::some, "wore(" + shelf + ", -1)", x -> x.wore(shelf, -1), BAD);
        }
        for (int name : new int[] {-2, 4, 8, MIN, MAX}) {
            Sentences.refused(Lands::some, "wore(0, " + name + ")", x -> x.wore(0, name), BAD);
            Sentences.refused(Lands::some, "BAD ahead of -11: wore(5, " + name + ")", x -> x.wore(5, name), BAD);
            Sentences.refused(Lands::some, "BAD ahead of -12: wore(1, " + name + ")", x -> x.wore(1, name), BAD);
        }
        Sentences.refused(Lands::some, "nothing", x -> x.wore(5, -1), MISSING);
        Sentences.refused(Lands::some, "a NAME", x -> x.wore(1, -1), OTHER_KIND);
        Sentences.refused(Lands::some, "shorts", x -> x.wore(2, -1), OTHER_KIND);
        Sentences.refused(Lands::some, "longs", x -> x.wore(3, 0), OTHER_KIND);
        Sentences.refused(Lands::some, "booleans", x -> x.wore(4, 3), OTHER_KIND);
        NamesOnLoan y = Lands.alike(1);
        y.row(0, 2, 0);
        Sentences.due("no ints", y.wore(0, -1), OTHER_KIND);
        Sentences.leaves(Lands::some, "wore(0, 0)", x -> x.wore(0, 0));
    }

    private static void p24FivePeople() {
        Sentences.of(24, "(by COATS, 5 PEOPLE at most, else STATE)");
        int[] ways = {1, 1, 4, 27, 256, 3120};
        for (int people = 0; people <= 8; people++) {
            NamesOnLoan x = signed(Lands.alike(people));
            // of five the five ways by which one wears all are too many for four COATS
            Sentences.due("ways of " + people, x.wore(0, -1), people > 5 ? STATE : ways[people]);
        }
        Sentences.of(24, "BAD, -11, -12, STATE");
        Sentences.refused(Lands::six, "STATE", x -> x.wore(0, -1), STATE);
        Sentences.refused(Lands::six, "STATE, of a NAME", x -> x.wore(0, 5), STATE);
        Sentences.refused(Lands::six, "-11 ahead of STATE", x -> x.wore(5, -1), MISSING);
        Sentences.refused(Lands::six, "-12 ahead of STATE: a NAME", x -> x.wore(1, -1), OTHER_KIND);
        Sentences.refused(Lands::six, "-12 ahead of STATE: shorts", x -> x.wore(2, -1), OTHER_KIND);
        Sentences.refused(Lands::six, "BAD ahead of STATE", x -> x.wore(0, 6), BAD);
        NamesOnLoan y = signed(Lands.alike(6), 0, 0);
        Sentences.due("STATE, if a three lacks, too", y.wore(0, -1), STATE);
    }

    private static void p24NoPeople() {
        Sentences.of(24, "how many ways to WEAR");
        Sentences.due("nothing signed", signed(Lands.empty()).wore(0, -1), 1);
        Sentences.due("something signed", signed(Lands.empty(), 0, 0, 0).wore(0, -1), 0);
        Sentences.due("no such NAME", signed(Lands.empty()).wore(0, 0), BAD);
    }

    private static void first(NamesOnLoan x, int ways, int... wearers) {
        Sentences.due("wore(0, -1)", x.wore(0, -1), ways);
        for (int name = 0; name < wearers.length; name++) {
            Sentences.due("wore(0, " + name + ")", x.wore(0, name), wearers[name]);
        }
    }

    private static void p24Coats() {
        Sentences.of(24, "ONE MAY WEAR as many NAMES as COATS");
        NamesOnLoan x = signed(Lands.alike(3));
        first(x, 27, 0, 0, 0);
        x.mend(0, 2, 2);
        first(x, 26, 0, 0, 1);
        x.mend(0, 2, 1);
        first(x, 20, 0, 1, 1);
        x.mend(1, 2, 1);
        first(x, 13, 0, 1, 2);
        x.mend(2, 2, 1);
        first(x, 6, 0, 1, 2);
        NamesOnLoan five = signed(Lands.alike(5));
        for (int one = 0; one < 5; one++) {
            five.mend(one, 2, 1);
        }
        first(five, 120, 0, 1, 2, 3, 4);
        five.mend(0, 2, 9);
        five.mend(1, 2, 9);
        // the others wear one or none: by how many of the three do, 2^5, 3 * 5 * 2^4, 3 * 20 * 2^3, 60 * 2^2
        first(five, 32 + 240 + 480 + 240, 0, 0, 0, 0, 0);
    }

    private static void p24NotSo() {
        Sentences.of(24, "make all so, by WEARERS kept all along; the WEARER of a NAME in the first (NOT)");
        NamesOnLoan x = Lands.alike(2);
        for (long[] bytes : new long[][] {{0}, {0, 0}, {0, 0, 0, 0}, {0, 0, 0, 0, 1}, {0, 2, 0}, {0, -1, 0}, {0, 0, 2}, {0, 0, -1},
            {100, 0, 0}, {-1, 0, 0}, {0, 0, 0, 0, 0, 1}, {0, 0, 8}, {0, 8, 8}, {0, 0, 0, 0, 1, 1, 127, 0, 0}}) {
            signed(x, bytes);
            first(x, 0, NOT, NOT);
        }
        first(signed(x, 0, 0, 1), 2, 1, 0);
        first(signed(x, 0, 1, 1), 2, 0, 1);
        first(signed(x, 0, 0, 1, 0, 1, 0), 1, 1, 0);
    }

    private static void p24Days() {
        Sentences.of(24, "the NAME not BURNT as that many DAYS are over");
        NamesOnLoan x = Lands.alike(2);
        Lands.law(x, "n=1&!g?1;50");
        first(signed(x, 99, 0, 0), 1, 0, 1);
        first(signed(x, 2, 0, 0), 1, 0, 1);
        first(signed(x, 1, 0, 0), 2, 0, 0);
        first(signed(x, 2, 0, 1), 0, NOT, NOT);
        x.pass(1);
        first(signed(x, 99, 0, 0), 0, NOT, NOT);
        first(signed(x, 98, 0, 0), 1, 0, 1);
        x.pass(99);
        first(signed(x, 0, 0, 0), 0, NOT, NOT);
        first(signed(x), 4, 0, 0);
        NamesOnLoan y = unlikeLeft();
        first(signed(y, 9, 0, 1), 2, 1, 0);
        first(signed(y, 4, 1, 0), 2, 0, 0);
        first(signed(y, 5, 1, 0), 0, NOT, NOT);
    }

    private static void p24KeptAllAlong() {
        Sentences.of(24, "by WEARERS kept all along");
        NamesOnLoan x = Lands.alike(2);
        first(signed(x, 0, 0, 0, 9, 0, 1), 0, NOT, NOT);
        first(signed(x, 9, 0, 1, 0, 0, 1), 2, 1, 0);
        x.lend(0, 1);
        x.lend(1, 1);
        first(signed(x, 0, 0, 0, 0, 1, 0), 1, 0, 0);
    }

    private static void p25Winters() {
        Sentences.of(25, "n winters (1 .. 20) of m DAYS (1 .. 99) from now by a SEED");
        for (int nm : new int[] {0, 1, 99, 100, 200, 2000, 2100, 2101, 2199, 9999, -1, -101, -100, -199, -2099, MIN, MAX, MIN + 1}) {
            Sentences.refused(Lands::some, "drawn(5, " + nm + ", 0)", x -> x.drawn(5, nm, 0), BAD);
            Sentences.refused(Lands::some, "drawn(5, " + nm + ", -1)", x -> x.drawn(5, nm, -1), BAD);
        }
        NamesOnLoan x = Lands.alike(1);
        Lands.law(x, "0");
        for (int n : new int[] {1, 2, 19, 20}) {
            for (int m : new int[] {1, 2, 98, 99}) {
                Sentences.due("drawn(5, " + (100 * n + m) + ", 0)", x.drawn(5, 100 * n + m, 0), 100 * n);
                Sentences.due("drawn(5, " + (100 * n + m) + ", -1)", x.drawn(5, 100 * n + m, -1), 0);
            }
        }
    }

    private static void p25Names() {
        Sentences.of(25, "DRAWN (nm: 100 n and m): BURNT (name -1), LEFT of a NAME. BAD.");
        for (int name : new int[] {-2, 4, 8, MIN, MAX}) {
            Sentences.refused(Lands::some, "drawn(5, 101, " + name + ")", x -> x.drawn(5, 101, name), BAD);
        }
        Sentences.due("without people: drawn(5, 101, 0)", Lands.empty().drawn(5, 101, 0), BAD);
        Sentences.due("without people: drawn(5, 2099, -1)", Lands.empty().drawn(5, 2099, -1), 0);
        NamesOnLoan x = Lands.alike(8);
        Lands.law(x, "1");
        Sentences.due("the eighth", x.drawn(5, 2099, 7), 20);
    }

    /** LEFT of a name of which each DAY's COLD is burnt, in all winters together. */
    private static int left(int seed, int winters, int days) {
        int z = seed;
        int sum = 0;
        for (int k = 0; k < winters; k++) {
            int rest = 100;
            for (int day = 0; day < days; day++) {
                z = z * 1103515245 + 12345;
                rest = Math.max(0, rest - (int) ((z & 0xFFFFFFFFL) / 256 % 10));
            }
            sum += rest;
        }
        return sum;
    }

    private static void p25Seeds() {
        Sentences.of(25, "z = z * 1103515245 + 12345 (an int; SEED at first) ahead of each DAY: COLD is (z >>> 8) % 10 that DAY");
        NamesOnLoan x = Lands.land(1, 9);
        Lands.law(x, "c");
        for (int seed : new int[] {0, 1, -1, 5, 77, 12345, -987654321, 2000000000, MIN, MIN + 1, MAX, MAX - 1}) {
            for (int days : new int[] {1, 2, 3, 9, 20, 99}) {
                Sentences.due("drawn(" + seed + ", " + (100 + days) + ", 0)", x.drawn(seed, 100 + days, 0), left(seed, 1, days));
            }
        }
    }

    private static void p25SeedGoesOn() {
        Sentences.of(25, "(an int; SEED at first)");
        NamesOnLoan x = Lands.land(1, 9);
        Lands.law(x, "c");
        for (int seed : new int[] {0, -1, MIN, MAX}) {
            for (int nm : new int[] {201, 305, 1010, 2001, 2015}) {
                Sentences.due("drawn(" + seed + ", " + nm + ", 0)", x.drawn(seed, nm, 0), left(seed, nm / 100, nm % 100));
            }
        }
    }

    private static void p25AtLeast0() {
        Sentences.of(25, "LEFT of each NAME is less by that (0 at least)");
        NamesOnLoan x = Lands.land(1, 9);
        Lands.law(x, "99");
        Sentences.due("one DAY", x.drawn(5, 101, 0), 1);
        Sentences.due("two DAYS", x.drawn(5, 102, 0), 0);
        Sentences.due("99 DAYS, 20 winters", x.drawn(5, 2099, 0), 0);
        x.pass(1);
        Sentences.due("from now", x.drawn(5, 101, 0), 0);
        Lands.law(x, "0");
        Sentences.due("from now, nothing more is burnt", x.drawn(5, 2099, 0), 20);
    }

    private static void p25Burnt() {
        Sentences.of(25, "how many NAMES are BURNT at the ends, all together");
        NamesOnLoan x = Lands.land(1, 0, 2, 0, 3, 0);
        Lands.law(x, "s=1?0;s=2?1;50");
        Sentences.due("one DAY", x.drawn(5, 2001, -1), 0);
        Sentences.due("one of three", x.drawn(5, 2002, -1), 20);
        Sentences.due("one of three, 99 DAYS", x.drawn(5, 2099, -1), 20);
        x.pass(1);
        Sentences.due("two of three", x.drawn(5, 2099, -1), 40);
        x.pass(99);
        Sentences.due("two are BURNT now", x.drawn(5, 101, -1), 2);
        NamesOnLoan y = Lands.land(3, 0, 1, 0, 1, 0);
        Lands.law(y, "s=3?99");
        Sentences.due("the first of three", y.drawn(5, 1002, -1), 10);
        NamesOnLoan z = Lands.alike(8);
        Lands.law(z, "99");
        Sentences.due("none of eight", z.drawn(5, 2001, -1), 0);
        Sentences.due("all of eight", z.drawn(5, 2002, -1), 160);
    }

    private static void p25InThought() {
        Sentences.of(25, "COLD is (z >>> 8) % 10 that DAY");
        Sentences.leaves(Lands::some, "drawn(5, 2099, -1)", x -> x.drawn(5, 2099, -1));
        Sentences.leaves(Lands::some, "drawn(5, 2099, 3)", x -> x.drawn(5, 2099, 3));
        Sentences.leaves(Lands::full, "drawn(MIN, 2099, -1)", x -> x.drawn(MIN, 2099, -1));
    }
}
