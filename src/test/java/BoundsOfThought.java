/** Promises 9 to 15: winters in thought, from no DAY to ninety-nine, and whom most is left by. */
final class BoundsOfThought {
    private static final int MIN = Sentences.MIN;
    private static final int MAX = Sentences.MAX;
    private static final int BAD = Sentences.BAD;
    private static final int NOT = Sentences.NOT;
    private static final int STATE = Sentences.STATE;
    private static final int[] NO_DAYS = {-1, 100, MIN, MAX, 256};
    private static final int[] NO_NAMES = {-1, 4, 8, MIN, MAX};
    private static final String DAYS = "n DAYS (0 .. 99), WEARERS as now";

    private BoundsOfThought() {
    }

    static void run() {
        p9Days();
        p9Names();
        p9AtLeast0();
        p10Days();
        p10Whats();
        p10CrackedAndBurnt();
        p10NoPeople();
        p11DayCounts();
        p11AlreadyNow();
        p11Refused();
        p12OfLikeOnes();
        p12WithinNinetyNine();
        p12NoPeople();
        p13Refused();
        p13OneMore();
        p13ItsWearer();
        p13OfLikeOnes();
        p13Days();
        p14Refused();
        p14FivePeople();
        p14NoPeople();
        p14Coats();
        p14OfLikeOnes();
        p14FewestBurnt();
        p14FewestCracked();
        p14MostLeft();
        p15Refused();
        p15FivePeople();
        p15Coats();
        p15NoneBurnt();
        p15NoPeople();
    }

    /** One name that loses so much a day. */
    private static NamesOnLoan burning(int syllables, String law) {
        NamesOnLoan x = Lands.land(syllables, 0);
        Lands.law(x, law);
        return x;
    }

    private static void p9Days() {
        Sentences.of(9, DAYS);
        for (int n : NO_DAYS) {
            Sentences.due("left(0, " + n + ")", Lands.some().left(0, n), BAD);
        }
        NamesOnLoan x = burning(3, "1");
        for (int n = 0; n <= 99; n++) {
            Sentences.due("left(0, " + n + ")", x.left(0, n), 100 - n);
        }
        Sentences.leaves(Lands::some, "left(0, 99)", y -> y.left(0, 99));
    }

    private static void p9Names() {
        Sentences.of(9, "LEFT of a NAME. BAD.");
        for (int name : NO_NAMES) {
            Sentences.due("left(" + name + ", 0)", Lands.some().left(name, 0), BAD);
        }
        Sentences.due("without people", Lands.empty().left(0, 0), BAD);
        Sentences.due("the eighth", Lands.alike(8).left(7, 1), 98);
    }

    private static void p9AtLeast0() {
        Sentences.of(9, "LEFT of each NAME is less by that (0 at least)");
        NamesOnLoan x = burning(3, "33");
        Sentences.due("99 less", x.left(0, 3), 1);
        Sentences.due("132 less", x.left(0, 4), 0);
        Sentences.due("99 times 33 less", x.left(0, 99), 0);
        NamesOnLoan y = burning(3, "99");
        Sentences.due("one DAY of 99", y.left(0, 1), 1);
        Sentences.due("99 DAYS of 99", y.left(0, 99), 0);
        NamesOnLoan z = burning(3, "50");
        Sentences.due("as much as there is", z.left(0, 2), 0);
    }

    private static void p10Days() {
        Sentences.of(10, DAYS);
        for (int what = 0; what < 3; what++) {
            for (int n : NO_DAYS) {
                Sentences.due("winter(" + n + ", " + what + ")", Lands.some().winter(n, what), BAD);
            }
            int w = what;
            Sentences.leaves(Lands::some, "winter(99, " + what + ")", y -> y.winter(99, w));
        }
        NamesOnLoan x = burning(3, "1");
        Sentences.due("winter(0, 2)", x.winter(0, 2), 100);
        Sentences.due("winter(99, 2)", x.winter(99, 2), 1);
        Sentences.due("winter(99, 1)", x.winter(99, 1), 0);
        Sentences.due("winter(99, 0)", x.winter(99, 0), 1);
    }

    private static void p10Whats() {
        Sentences.of(10, "How many are CRACKED (what 0), BURNT (1), LEFT in all (2). BAD.");
        for (int what : new int[] {-1, 3, MIN, MAX}) {
            Sentences.due("winter(1, " + what + ")", Lands.some().winter(1, what), BAD);
        }
    }

    private static void p10CrackedAndBurnt() {
        Sentences.of(10, "A NAME is CRACKED, if LEFT is less than 10 times SYLLABLES; BURNT, if it is 0");
        NamesOnLoan x = Lands.land(1, 0, 5, 0, 9, 0);
        Lands.law(x, "10");
        int[] cracked = {0, 0, 1, 1, 1, 1, 2, 2, 2, 2, 3};
        for (int n = 0; n <= 10; n++) {
            Sentences.due("CRACKED after " + n, x.winter(n, 0), cracked[n]);
            Sentences.due("BURNT after " + n, x.winter(n, 1), n < 10 ? 0 : 3);
            Sentences.due("LEFT in all after " + n, x.winter(n, 2), 300 - 30 * n);
        }
    }

    private static void p10NoPeople() {
        Sentences.of(10, "How many are CRACKED (what 0), BURNT (1), LEFT in all (2). BAD.");
        for (int what = 0; what < 3; what++) {
            Sentences.due("without people", Lands.empty().winter(99, what), 0);
        }
    }

    private static void p11DayCounts() {
        Sentences.of(11, "the first DAY count (0 .. 99) behind which a NAME is CRACKED, is BURNT; NOT");
        NamesOnLoan x = burning(1, "1");
        Sentences.due("CRACKED by 1 a DAY", x.when(0, 0), 91);
        Sentences.due("BURNT on the 100th DAY", x.when(0, 1), NOT);
        x.pass(1);
        Sentences.due("BURNT on the 99th DAY", x.when(0, 1), 99);
        x.pass(1);
        Sentences.due("BURNT on the 98th DAY", x.when(0, 1), 98);
        Sentences.due("BURNT by 99 a DAY", burning(1, "99").when(0, 1), 2);
        Sentences.due("CRACKED by 99 a DAY", burning(1, "99").when(0, 0), 1);
        Sentences.due("BURNT by none", burning(9, "0").when(0, 1), NOT);
        Sentences.due("CRACKED by none", burning(9, "0").when(0, 0), NOT);
        Sentences.due("BURNT by 50 a DAY", burning(5, "50").when(0, 1), 2);
        Sentences.due("50 of five SYLLABLES is not CRACKED", burning(5, "50").when(0, 0), 2);
        Sentences.due("CRACKED of 9 SYLLABLES by 1", burning(9, "1").when(0, 0), 11);
    }

    private static void p11AlreadyNow() {
        Sentences.of(11, "the first DAY count (0 .. 99) behind which");
        NamesOnLoan x = burning(9, "11");
        x.pass(1);
        Sentences.due("CRACKED now", x.when(0, 0), 0);
        Sentences.due("not BURNT now", x.when(0, 1), 9);
        x.pass(9);
        Sentences.due("BURNT now", x.when(0, 1), 0);
        Lands.law(x, "0");
        Sentences.due("BURNT now, and nothing more is burnt", x.when(0, 1), 0);
    }

    private static void p11Refused() {
        Sentences.of(11, "CRACKED (what 0), BURNT (1): behind which DAY. BAD; NOT.");
        for (int name : NO_NAMES) {
            Sentences.due("when(" + name + ", 0)", Lands.some().when(name, 0), BAD);
        }
        for (int what : new int[] {-1, 2, MIN, MAX}) {
            Sentences.due("when(0, " + what + ")", Lands.some().when(0, what), BAD);
        }
        Sentences.due("BAD ahead of NOT", burning(9, "0").when(0, 2), BAD);
        Sentences.leaves(Lands::some, "when(0, 1)", x -> x.when(0, 1));
    }

    private static void p12OfLikeOnes() {
        Sentences.of(12, "the NAME that is BURNT first (of like ones the least)");
        NamesOnLoan x = Lands.alike(8);
        Sentences.due("all alike", x.last(), 0);
        Lands.law(x, "s*3+50");
        x.mend(7, 0, 2);
        Sentences.due("two DAYS each", x.last(), 0);
        Lands.law(x, "s*20");
        Sentences.due("the last one first", x.last(), 7);
        x.mend(3, 0, 2);
        Sentences.due("two alike", x.last(), 3);
        Lands.law(x, "s=2?99");
        Sentences.due("two that burn at all", x.last(), 3);
        x.mend(3, 0, 1);
        Sentences.due("one that burns at all", x.last(), 7);
        Sentences.leaves(Lands::some, "last()", NamesOnLoan::last);
    }

    private static void p12WithinNinetyNine() {
        Sentences.of(12, "NOT within 99");
        NamesOnLoan x = burning(1, "1");
        Sentences.due("on the 100th DAY", x.last(), NOT);
        x.pass(1);
        Sentences.due("on the 99th DAY", x.last(), 0);
        Lands.law(x, "0");
        Sentences.due("never", x.last(), NOT);
        Lands.law(x, "99");
        x.pass(1);
        Lands.law(x, "0");
        Sentences.due("BURNT already", x.last(), 0);
    }

    private static void p12NoPeople() {
        Sentences.of(12, "LAST: which NAME is BURNT first. NOT.");
        Sentences.due("without people", Lands.empty().last(), NOT);
    }

    private static void p13Refused() {
        Sentences.of(13, "GIVE: who (what 0), how much (1). BAD.");
        for (int name : NO_NAMES) {
            Sentences.due("give(" + name + ", 0, 0)", Lands.some().give(name, 0, 0), BAD);
        }
        for (int what : new int[] {-1, 2, MIN, MAX}) {
            Sentences.due("give(0, 0, " + what + ")", Lands.some().give(0, 0, what), BAD);
        }
        Sentences.of(13, DAYS);
        for (int n : NO_DAYS) {
            Sentences.due("give(0, " + n + ", 0)", Lands.some().give(0, n, 0), BAD);
        }
        Sentences.leaves(Lands::some, "give(0, 9, 0)", x -> x.give(0, 9, 0));
        Sentences.due("without people", Lands.empty().give(0, 0, 0), BAD);
    }

    private static void p13OneMore() {
        Sentences.of(13, "to one who may wear one more");
        // 1 goes out nine times a day, and so would keep the name whole
        NamesOnLoan x = Lands.land(5, 0, 1, 9, 1, 0);
        x.mend(1, 2, 2);
        Sentences.due("one COAT is free", x.give(0, 9, 0), 1);
        Sentences.due("one COAT is free: how much", x.give(0, 9, 1), 100);
        x.lend(2, 1);
        Sentences.due("no COAT is free", x.give(0, 9, 0), 0);
        Sentences.due("no COAT is free: how much", x.give(0, 9, 1), 10);
        x.mend(1, 2, 3);
        Sentences.due("a third COAT", x.give(0, 9, 0), 1);
        x.mend(1, 2, 1);
        Sentences.due("COATS mended to fewer than it wears", x.give(0, 9, 0), 0);
        x.lend(1, 0);
        x.lend(2, 2);
        Sentences.due("one who wears none", x.give(0, 9, 0), 1);
    }

    private static void p13ItsWearer() {
        Sentences.of(13, "or its WEARER");
        NamesOnLoan x = Lands.land(5, 0, 1, 9);
        x.lend(0, 1);
        x.mend(1, 2, 1);
        Sentences.due("its WEARER, who may wear no more", x.give(0, 9, 0), 1);
        Sentences.due("n counts it once", x.give(0, 9, 1), 100);
        Lands.law(x, "n*10");
        x.mend(0, 2, 1);
        Sentences.due("the owner, who wears none", x.give(0, 2, 0), 0);
        Sentences.due("the owner: how much", x.give(0, 2, 1), 80);
        x.lend(0, 0);
        x.mend(0, 2, 9);
        Sentences.due("the owner, who wears it", x.give(0, 2, 0), 0);
        Sentences.due("the owner, who wears it: how much", x.give(0, 2, 1), 80);
    }

    private static void p13OfLikeOnes() {
        Sentences.of(13, "of like ones the least): who; how much");
        NamesOnLoan x = Lands.alike(8);
        for (int name = 0; name < 8; name++) {
            Sentences.due("no DAYS", x.give(name, 0, 0), 0);
            Sentences.due("no DAYS: how much", x.give(name, 0, 1), 100);
            Sentences.due("alone is better", x.give(name, 9, 0), name);
        }
        x.mend(0, 2, 1);
        x.mend(1, 2, 1);
        Sentences.due("two who may wear no more", x.give(7, 0, 0), 2);
        Lands.law(x, "99");
        Sentences.due("BURNT with each", x.give(7, 9, 0), 2);
        Sentences.due("BURNT with each: how much", x.give(7, 9, 1), 0);
    }

    private static void p13Days() {
        Sentences.of(13, "so that after n DAYS most of it is LEFT");
        NamesOnLoan x = Lands.land(1, 0, 1, 0);
        Lands.law(x, "1+g");
        Sentences.due("after 99", x.give(1, 99, 0), 1);
        Sentences.due("after 99: how much", x.give(1, 99, 1), 1);
        Sentences.due("after 1", x.give(1, 1, 0), 1);
        Sentences.due("after none", x.give(1, 0, 0), 0);
    }

    private static void p14Refused() {
        Sentences.of(14, "ALL LAST: the WEARER of a NAME (0 on), how many BURNT (-1), LEFT in all (-2). BAD; STATE; NOT.");
        for (int what : new int[] {-3, 4, 5, 8, MIN, MAX}) {
            Sentences.due("allLast(0, " + what + ")", Lands.some().allLast(0, what), BAD);
        }
        for (int what : new int[] {-3, 6, 8, MIN, MAX}) {
            Sentences.due("BAD ahead of STATE: allLast(0, " + what + ")", Lands.six().allLast(0, what), BAD);
        }
        Sentences.of(14, DAYS);
        for (int n : NO_DAYS) {
            Sentences.due("allLast(" + n + ", 0)", Lands.some().allLast(n, 0), BAD);
            Sentences.due("BAD ahead of STATE: allLast(" + n + ", 0)", Lands.six().allLast(n, 0), BAD);
        }
        Sentences.leaves(Lands::some, "allLast(9, 0)", x -> x.allLast(9, 0));
    }

    private static void p14FivePeople() {
        Sentences.of(14, "(5 PEOPLE at most, else STATE), by COATS");
        for (int people = 1; people <= 8; people++) {
            NamesOnLoan x = Lands.alike(people);
            Sentences.due("LEFT in all of " + people, x.allLast(0, -2), people > 5 ? STATE : 100 * people);
            Sentences.due("BURNT of " + people, x.allLast(99, -1), people > 5 ? STATE : people);
            Sentences.due("WEARER of the first of " + people, x.allLast(0, 0), people > 5 ? STATE : 0);
            Sentences.due("none behind the last of " + people, x.allLast(0, people), BAD);
        }
        Sentences.refused(Lands::six, "allLast(9, -2)", x -> x.allLast(9, -2), STATE);
        Sentences.refused(Lands::six, "allLast(9, 5)", x -> x.allLast(9, 5), STATE);
    }

    private static void p14NoPeople() {
        Sentences.of(14, "ALL LAST: the WEARER of a NAME (0 on), how many BURNT (-1), LEFT in all (-2). BAD; STATE; NOT.");
        Sentences.due("how many are BURNT", Lands.empty().allLast(99, -1), 0);
        Sentences.due("LEFT in all", Lands.empty().allLast(99, -2), 0);
        Sentences.due("WEARER of 0", Lands.empty().allLast(99, 0), BAD);
    }

    private static void ways(NamesOnLoan x, int n, int... wearers) {
        for (int name = 0; name < wearers.length; name++) {
            Sentences.due("allLast(" + n + ", " + name + ")", x.allLast(n, name), wearers[name]);
        }
    }

    private static void p14Coats() {
        Sentences.of(14, "ONE MAY WEAR as many NAMES as COATS");
        NamesOnLoan x = Lands.alike(5);
        ways(x, 0, 0, 0, 0, 0, 1);
        x.mend(0, 2, 5);
        ways(x, 0, 0, 0, 0, 0, 0);
        x.mend(0, 2, 3);
        ways(x, 0, 0, 0, 0, 1, 1);
        x.mend(1, 2, 1);
        ways(x, 0, 0, 0, 0, 1, 2);
        for (int one = 0; one < 5; one++) {
            x.mend(one, 2, 1);
        }
        ways(x, 0, 0, 1, 2, 3, 4);
        Sentences.of(14, "(COATS mended to fewer than it wears: it may wear no more)");
        x.mend(4, 2, 9);
        for (int name = 0; name < 4; name++) {
            x.lend(name, 4);
        }
        x.mend(4, 2, 1);
        ways(x, 0, 0, 1, 2, 3, 4);
        Sentences.of(14, "NOT: none is (COATS do not do)");
        Sentences.due("each may wear one at least, so one way is always there", x.allLast(0, -1), 0);
    }

    private static void p14OfLikeOnes() {
        Sentences.of(14, "(of like ones the first by WEARERS, NAME by NAME)");
        NamesOnLoan x = Lands.alike(3);
        Lands.law(x, "n>1?9;g*5");
        // nobody may share, and each keeps its own
        ways(x, 3, 0, 1, 2);
        Lands.law(x, "n>1?9;0");
        ways(x, 3, 0, 1, 2);
        Lands.law(x, "n>1?9;1-g");
        // the first of the two ways by which none has its own
        ways(x, 3, 1, 2, 0);
        Lands.law(x, "n=2?0;5");
        // of three, two may share, and the third is alone
        ways(x, 3, 0, 0, 1);
        Lands.law(x, "g");
        ways(x, 3, 0, 1, 2);
        Lands.law(x, "1-g");
        ways(x, 3, 1, 0, 0);
    }

    private static void p14FewestBurnt() {
        Sentences.of(14, "so that after n DAYS fewest are BURNT");
        NamesOnLoan x = Lands.alike(2);
        Lands.law(x, "n=2?g*10;g?99;6");
        // together: 100 in all, but one is BURNT; each its own: 40 each
        ways(x, 10, 0, 1);
        Sentences.due("BURNT", x.allLast(10, -1), 0);
        Sentences.due("LEFT in all", x.allLast(10, -2), 80);
        // on the tenth DAY first
        ways(x, 9, 0, 0);
        Sentences.due("BURNT a DAY sooner", x.allLast(9, -1), 0);
        Sentences.due("LEFT in all a DAY sooner", x.allLast(9, -2), 110);
        NamesOnLoan y = Lands.alike(5);
        Lands.law(y, "99");
        Sentences.due("all are BURNT", y.allLast(2, -1), 5);
        Sentences.due("none is LEFT", y.allLast(2, -2), 0);
        ways(y, 2, 0, 0, 0, 0, 1);
    }

    private static void p14FewestCracked() {
        Sentences.of(14, "of these fewest CRACKED");
        NamesOnLoan x = Lands.land(9, 0, 9, 0);
        Lands.law(x, "n=2?g*12;3");
        // together: 100 and 40, one is CRACKED; each its own: 85 and 85, both CRACKED
        ways(x, 5, 0, 0);
        Sentences.due("LEFT in all", x.allLast(5, -2), 140);
        // each its own after three DAYS: 91 and 91, none CRACKED; together 100 and 64
        ways(x, 3, 0, 1);
        Sentences.due("LEFT in all after three", x.allLast(3, -2), 182);
        NamesOnLoan y = Lands.land(9, 0, 1, 0);
        Lands.law(y, "n=2&s=9?11;n=2?0;s=9?10;8");
        // together: 89 and 100, one CRACKED; each its own: 90 and 92, none
        ways(y, 1, 0, 1);
        Sentences.due("ninety of nine SYLLABLES is not CRACKED", y.allLast(1, -2), 182);
        NamesOnLoan z = Lands.land(9, 0, 1, 0);
        Lands.law(z, "n=2&s=9?11;n=2?0;s=9?11;8");
        ways(z, 1, 0, 0);
        Sentences.due("both ways one is CRACKED", z.allLast(1, -2), 189);
    }

    private static void p14MostLeft() {
        Sentences.of(14, "of these most is LEFT in all");
        NamesOnLoan x = Lands.alike(2);
        Lands.law(x, "n=2?3;2+g");
        ways(x, 5, 0, 1);
        Sentences.due("LEFT in all", x.allLast(5, -2), 180);
        Lands.law(x, "n=2?2;2+g");
        ways(x, 5, 0, 0);
        Lands.law(x, "n=2?3;3-g");
        ways(x, 5, 1, 0);
        Sentences.due("each the other's", x.allLast(5, -2), 180);
    }

    private static void p15Refused() {
        Sentences.of(15, "FEWEST. BAD; STATE; NOT.");
        for (int n : NO_DAYS) {
            Sentences.due("fewest(" + n + ")", Lands.some().fewest(n), BAD);
            Sentences.due("BAD ahead of STATE: fewest(" + n + ")", Lands.six().fewest(n), BAD);
            Sentences.due("without people: fewest(" + n + ")", Lands.empty().fewest(n), BAD);
        }
        Sentences.leaves(Lands::some, "fewest(9)", x -> x.fewest(9));
    }

    private static void p15FivePeople() {
        Sentences.of(15, "(5 PEOPLE at most, else STATE): how many; NOT");
        for (int people = 1; people <= 8; people++) {
            NamesOnLoan x = Lands.alike(people);
            x.mend(0, 2, 9);
            Sentences.due("of " + people, x.fewest(0), people > 5 ? STATE : 1);
            Sentences.due("none of " + people, x.fewest(99), people > 5 ? STATE : NOT);
        }
        Sentences.refused(Lands::six, "fewest(0)", x -> x.fewest(0), STATE);
    }

    private static void p15Coats() {
        Sentences.of(15, "ONE MAY WEAR as many NAMES as COATS");
        NamesOnLoan x = Lands.alike(5);
        int[] want = {5, 3, 2, 2, 1};
        for (int coats = 1; coats <= 5; coats++) {
            for (int one = 0; one < 5; one++) {
                x.mend(one, 2, coats);
            }
            Sentences.due(coats + " COATS each", x.fewest(0), want[coats - 1]);
        }
        for (int one = 0; one < 5; one++) {
            x.mend(one, 2, 1);
        }
        x.mend(4, 2, 4);
        Sentences.due("the last one has four", x.fewest(0), 2);
        x.mend(2, 2, 2);
        x.mend(4, 2, 3);
        Sentences.due("two and three", x.fewest(0), 2);
    }

    private static void p15NoneBurnt() {
        Sentences.of(15, "the fewest PEOPLE who wear all NAMES so that none is BURNT after n DAYS");
        NamesOnLoan x = Lands.alike(3);
        Lands.law(x, "n*20");
        Sentences.due("60 a DAY, one DAY", x.fewest(1), 1);
        Sentences.due("40 a DAY, two DAYS", x.fewest(2), 2);
        Sentences.due("20 a DAY, three DAYS", x.fewest(3), 3);
        Sentences.due("20 a DAY, four DAYS", x.fewest(4), 3);
        Sentences.due("20 a DAY, five DAYS", x.fewest(5), NOT);
        Lands.law(x, "1");
        Sentences.due("one is LEFT", x.fewest(99), 1);
        x.pass(1);
        Sentences.due("none is LEFT", x.fewest(99), NOT);
        Sentences.due("one is LEFT a DAY sooner", x.fewest(98), 1);
        Lands.law(x, "50");
        x.pass(2);
        Sentences.due("BURNT now", x.fewest(0), NOT);
    }

    private static void p15NoPeople() {
        Sentences.of(15, "how many; NOT");
        Sentences.due("without people", Lands.empty().fewest(99), 0);
        Sentences.due("without people, no DAYS", Lands.empty().fewest(0), 0);
    }}
