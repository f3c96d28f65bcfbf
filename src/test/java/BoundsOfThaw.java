/** Promises 16 to 22: the thaw, rings, crowds, letters, debts and wrong doors. */
final class BoundsOfThaw {
    private static final int MIN = Sentences.MIN;
    private static final int MAX = Sentences.MAX;
    private static final int BAD = Sentences.BAD;
    private static final int NOT = Sentences.NOT;
    private static final int STATE = Sentences.STATE;
    private static final int[] NO_NAMES = {-1, 4, 8, MIN, MAX};

    private BoundsOfThaw() {
    }

    static void run() {
        p16Refused();
        p16AtHome();
        p16SevenOfOne();
        p16LeastNumberFirst();
        p16AllAtOnce();
        p17Refused();
        p17Rounds();
        p17RoundOfAll();
        p18Refused();
        p18NoPeople();
        p18OfLikeOnes();
        p19Refused();
        p19Times();
        p19Unlike();
        p20Refused();
        p20Numbers();
        p20Unlike();
        p20BelowNought();
        p20Most();
        p21Refused();
        p21Sleeps();
        p21AwakeAgain();
        p22Refused();
        p22NoPairs();
        p22MoreThanAsItIs();
        p22OfLikeOnes();
        p22UnlikeWearers();
        p22CoatsStay();
    }

    /** Every name of eight is worn by the next one, the last by the first. */
    private static NamesOnLoan round() {
        NamesOnLoan x = Lands.alike(8);
        for (int k = 0; k < 8; k++) {
            x.lend(k, (k + 1) % 8);
        }
        return x;
    }

    /** Seven names of eight are worn by one, who wears its own, too. */
    private static NamesOnLoan crowded(int one) {
        NamesOnLoan x = Lands.alike(8);
        x.mend(one, 2, 9);
        for (int k = 0; k < 8; k++) {
            x.lend(k, one);
        }
        return x;
    }

    private static void p16Refused() {
        Sentences.of(16, "THAW: minutes (name -1), the minute of a NAME. BAD.");
        for (int name : new int[] {-2, 4, 8, MIN, MAX}) {
            Sentences.due("thaws(" + name + ")", Lands.some().thaws(name), BAD);
        }
        Sentences.due("without people: thaws(0)", Lands.empty().thaws(0), BAD);
        Sentences.due("without people: minutes", Lands.empty().thaws(-1), 0);
        Sentences.leaves(Lands::some, "thaws(-1)", x -> x.thaws(-1));
        Sentences.leaves(Lands::some, "thaws(0)", x -> x.thaws(0));
    }

    private static void p16AtHome() {
        Sentences.of(16, "which minute a NAME is home (0: it is)");
        NamesOnLoan x = Lands.alike(8);
        for (int name = -1; name < 8; name++) {
            Sentences.due("thaws(" + name + ")", x.thaws(name), 0);
        }
        x.lend(0, 7);
        x.lend(0, 0);
        Sentences.due("home before the thaw", x.thaws(0), 0);
    }

    private static void p16SevenOfOne() {
        Sentences.of(16, "how many minutes till all are home");
        for (int one = 0; one < 8; one++) {
            NamesOnLoan x = crowded(one);
            Sentences.due("seven NAMES of " + one, x.thaws(-1), 7);
            for (int name = 0; name < 8; name++) {
                int want = name == one ? 0 : name < one ? name + 1 : name;
                Sentences.due("the minute of " + name, x.thaws(name), want);
            }
        }
    }

    private static void p16LeastNumberFirst() {
        Sentences.of(16, "minute by minute (1 on) one who wears NAMES of others hands the one of least number to its owner");
        NamesOnLoan x = Lands.alike(8);
        // lent in another order than their numbers
        x.lend(6, 3);
        x.lend(2, 3);
        x.lend(4, 3);
        Sentences.due("the minute of 2", x.thaws(2), 1);
        Sentences.due("its own is no NAME of others", x.thaws(3), 0);
        Sentences.due("the minute of 4", x.thaws(4), 2);
        Sentences.due("the minute of 6", x.thaws(6), 3);
        x.lend(3, 1);
        Sentences.due("the minute of 4, its own given", x.thaws(4), 2);
        Sentences.due("the minute of 3", x.thaws(3), 1);
    }

    private static void p16AllAtOnce() {
        Sentences.of(16, "to its owner, all at once");
        NamesOnLoan x = round();
        Sentences.due("minutes of a round", x.thaws(-1), 1);
        for (int name = 0; name < 8; name++) {
            Sentences.due("the minute of " + name, x.thaws(name), 1);
        }
        x.lend(0, 2);
        x.lend(4, 6);
        Sentences.due("two have two each", x.thaws(-1), 2);
        Sentences.due("the second of 2", x.thaws(1), 2);
        Sentences.due("the second of 6", x.thaws(5), 2);
    }

    private static void p17Refused() {
        Sentences.of(17, "RING: how many (what 0), whether (1). BAD.");
        for (int what = 0; what < 2; what++) {
            for (int one : NO_NAMES) {
                Sentences.due("ring(" + one + ", " + what + ")", Lands.some().ring(one, what), BAD);
            }
        }
        for (int what : new int[] {-1, 2, MIN, MAX}) {
            Sentences.due("ring(0, " + what + ")", Lands.some().ring(0, what), BAD);
        }
        Sentences.due("without people", Lands.empty().ring(0, 0), BAD);
        Sentences.leaves(Lands::some, "ring(0, 0)", x -> x.ring(0, 0));
    }

    private static void rings(NamesOnLoan x, int one, int many, int within) {
        Sentences.due("ring(" + one + ", 0)", x.ring(one, 0), many);
        Sentences.due("ring(" + one + ", 1)", x.ring(one, 1), within);
    }

    private static void p17Rounds() {
        Sentences.of(17, "how many PEOPLE are in the round that one comes to at last; whether (1, 0) it is itself in it");
        NamesOnLoan x = Lands.alike(8);
        for (int one = 0; one < 8; one++) {
            rings(x, one, 1, 1);
        }
        // a path of six into a round of two: 0, 1, .. 6, 7, 6
        for (int one = 0; one < 7; one++) {
            x.lend(one, one + 1);
        }
        rings(x, 0, 1, 0);
        rings(x, 6, 1, 0);
        rings(x, 7, 1, 1);
        x.lend(7, 6);
        for (int one = 0; one < 6; one++) {
            rings(x, one, 2, 0);
        }
        rings(x, 6, 2, 1);
        rings(x, 7, 2, 1);
    }

    private static void p17RoundOfAll() {
        Sentences.of(17, "whether (1, 0) it is itself in it");
        NamesOnLoan x = round();
        for (int one = 0; one < 8; one++) {
            rings(x, one, 8, 1);
        }
        // the first is left aside by the last
        x.lend(7, 1);
        rings(x, 0, 7, 0);
        for (int one = 1; one < 8; one++) {
            rings(x, one, 7, 1);
        }
    }

    private static void p18Refused() {
        Sentences.of(18, "CROWD: how many (what 0), who (1; NOT: no PEOPLE). BAD.");
        for (int what : new int[] {-1, 2, MIN, MAX}) {
            Sentences.due("crowd(" + what + ")", Lands.some().crowd(what), BAD);
            Sentences.due("BAD ahead of NOT: crowd(" + what + ")", Lands.empty().crowd(what), BAD);
        }
        Sentences.leaves(Lands::some, "crowd(1)", x -> x.crowd(1));
    }

    private static void p18NoPeople() {
        Sentences.of(18, "who (1; NOT: no PEOPLE)");
        Sentences.due("who", Lands.empty().crowd(1), NOT);
        Sentences.due("how many", Lands.empty().crowd(0), 0);
        Sentences.due("who, of one", Lands.alike(1).crowd(1), 0);
        Sentences.due("how many, of one", Lands.alike(1).crowd(0), 1);
    }

    private static void p18OfLikeOnes() {
        Sentences.of(18, "how many NAMES the one wears that wears most; who (of like ones the least)");
        NamesOnLoan x = Lands.alike(8);
        Sentences.due("all alike", x.crowd(1), 0);
        x.lend(0, 7);
        Sentences.due("the last one", x.crowd(1), 7);
        x.lend(1, 3);
        Sentences.due("3 and 7", x.crowd(1), 3);
        Sentences.due("two each", x.crowd(0), 2);
        x.lend(2, 7);
        Sentences.due("7 wears three", x.crowd(1), 7);
        for (int one = 0; one < 8; one++) {
            Sentences.due("eight of " + one, crowded(one).crowd(0), 8);
            Sentences.due("who, of eight by " + one, crowded(one).crowd(1), one);
        }
    }

    private static void p19Refused() {
        Sentences.of(19, "LETTER: who (what 0), how many (1). BAD.");
        for (int name : NO_NAMES) {
            Sentences.due("letter(" + name + ", 0, 0)", Lands.some().letter(name, 0, 0), BAD);
        }
        for (int what : new int[] {-1, 2, MIN, MAX}) {
            Sentences.due("letter(0, 0, " + what + ")", Lands.some().letter(0, 0, what), BAD);
        }
        Sentences.of(19, "k times (0 .. 99)");
        for (int k : new int[] {-1, 100, MIN, MAX}) {
            Sentences.due("letter(0, " + k + ", 0)", Lands.some().letter(0, k, 0), BAD);
        }
        Sentences.due("without people", Lands.empty().letter(0, 0, 0), BAD);
        Sentences.leaves(Lands::some, "letter(0, 99, 1)", x -> x.letter(0, 99, 1));
    }

    private static void p19Times() {
        Sentences.of(19, "sends on to whom its OWN NAME is worn by, k times (0 .. 99): who has it then");
        NamesOnLoan x = round();
        for (int k = 0; k <= 99; k++) {
            Sentences.due("letter(5, " + k + ", 0)", x.letter(5, k, 0), (6 + k) % 8);
        }
        NamesOnLoan y = Lands.alike(3);
        y.lend(0, 2);
        Sentences.due("one who wears its own keeps it", y.letter(0, 99, 0), 2);
        Sentences.due("never sent on", y.letter(0, 0, 0), 2);
    }

    private static void p19Unlike() {
        Sentences.of(19, "to how many unlike PEOPLE it came (the first WEARER, too)");
        NamesOnLoan x = round();
        for (int k = 0; k <= 99; k++) {
            Sentences.due("letter(5, " + k + ", 1)", x.letter(5, k, 1), Math.min(8, k + 1));
        }
        NamesOnLoan y = Lands.alike(3);
        y.lend(0, 2);
        Sentences.due("the first WEARER alone", y.letter(0, 0, 1), 1);
        Sentences.due("the first WEARER again and again", y.letter(0, 99, 1), 1);
        y.lend(2, 1);
        Sentences.due("two", y.letter(0, 99, 1), 2);
    }

    private static void p20Refused() {
        Sentences.of(20, "OWE n more (-99 .. 99) of a to b");
        for (int n : new int[] {-100, 100, MIN, MAX}) {
            Sentences.refused(Lands::some, "owe(1, " + n + ")", x -> x.owe(1, n), BAD);
        }
        NamesOnLoan x = Lands.alike(2);
        Sentences.due("owe(1, 99)", x.owe(1, 99), 99);
        Sentences.due("owe(1, -99)", x.owe(1, -99), 0);
        Sentences.due("owe(1, 0)", x.owe(1, 0), 0);
        Sentences.due("owe(1, 1)", x.owe(1, 1), 1);
        Sentences.of(20, "how much then. BAD; STATE");
        Sentences.refused(Lands::some, "BAD ahead of STATE: owe(10, -100)", y -> y.owe(10, -100), BAD);
        Sentences.refused(Lands::some, "BAD ahead of STATE: owe(11, -1)", y -> y.owe(11, -1), BAD);
        Sentences.refused(Lands::some, "BAD ahead of STATE: owe(41, -1)", y -> y.owe(41, -1), BAD);
    }

    private static void p20Numbers() {
        Sentences.of(20, "BAD (-1): no such number, or it is not as said");
        for (int ab : new int[] {-1, -10, -12, 4, 40, 14, 41, 9, 90, 99, 100, 101, 110, 201, 1000, MIN, MIN + 1, MAX}) {
            Sentences.refused(Lands::some, "owe(" + ab + ", 1)", x -> x.owe(ab, 1), BAD);
        }
        Sentences.due("without people", Lands.empty().owe(1, 1), BAD);
        NamesOnLoan x = Lands.alike(8);
        Sentences.due("owe(76, 5)", x.owe(76, 5), 5);
        Sentences.due("owe(67, 6)", x.owe(67, 6), 6);
        Sentences.due("owe(7, 7)", x.owe(7, 7), 7);
        Sentences.due("owe(70, 8)", x.owe(70, 8), 8);
        Sentences.due("owe(78, 1)", x.owe(78, 1), BAD);
        Sentences.due("owe(87, 1)", x.owe(87, 1), BAD);
        Sentences.due("7 owes", x.debt(7), 13);
        Sentences.due("6 owes", x.debt(6), 6);
        Sentences.due("0 owes", x.debt(0), 7);
    }

    private static void p20Unlike() {
        Sentences.of(20, "(ab: 10 a and b, unlike)");
        for (int ab : new int[] {0, 11, 22, 33}) {
            Sentences.refused(Lands::some, "owe(" + ab + ", 1)", x -> x.owe(ab, 1), BAD);
        }
    }

    private static void p20BelowNought() {
        Sentences.of(20, "STATE: below 0, or more than 9999");
        Sentences.refused(Lands::some, "owe(10, -1)", x -> x.owe(10, -1), STATE);
        Sentences.refused(Lands::some, "owe(1, -10)", x -> x.owe(1, -10), STATE);
        Sentences.refused(Lands::some, "owe(1, -99)", x -> x.owe(1, -99), STATE);
        NamesOnLoan x = Lands.some();
        Sentences.due("to 0", x.owe(1, -9), 0);
        Sentences.due("below 0", x.owe(1, -1), STATE);
    }

    private static NamesOnLoan deepInDebt() {
        NamesOnLoan x = Lands.alike(2);
        for (int k = 0; k < 100; k++) {
            x.owe(1, 99);
        }
        return x;
    }

    private static void p20Most() {
        Sentences.of(20, "STATE: below 0, or more than 9999");
        NamesOnLoan x = deepInDebt();
        Sentences.due("9900", x.owe(1, 0), 9900);
        Sentences.due("9998", x.owe(1, 98), 9998);
        Sentences.due("10000", x.owe(1, 2), STATE);
        Sentences.due("9999", x.owe(1, 1), 9999);
        Sentences.due("10000", x.owe(1, 1), STATE);
        Sentences.due("9999 still", x.owe(1, 0), 9999);
        Sentences.refused(BoundsOfThaw::most, "10000", y -> y.owe(1, 1), STATE);
        Sentences.refused(BoundsOfThaw::most, "10098", y -> y.owe(1, 99), STATE);
        Sentences.due("the other way, another debt", x.owe(10, 99), 99);
    }

    private static NamesOnLoan most() {
        NamesOnLoan x = deepInDebt();
        x.owe(1, 99);
        return x;
    }

    private static void p21Refused() {
        Sentences.of(21, "DEBT: awake of a NAME (0 on), all that sleeps (-1). BAD.");
        for (int name : new int[] {-2, 4, 8, MIN, MAX}) {
            Sentences.due("debt(" + name + ")", Lands.some().debt(name), BAD);
        }
        Sentences.due("without people: debt(0)", Lands.empty().debt(0), BAD);
        Sentences.due("without people: what sleeps", Lands.empty().debt(-1), 0);
        Sentences.leaves(Lands::some, "debt(-1)", x -> x.debt(-1));
    }

    private static void debts(NamesOnLoan x, int of0, int of1, int of2, int asleep) {
        Sentences.due("debt(0)", x.debt(0), of0);
        Sentences.due("debt(1)", x.debt(1), of1);
        Sentences.due("debt(2)", x.debt(2), of2);
        Sentences.due("debt(-1)", x.debt(-1), asleep);
    }

    private static NamesOnLoan owing() {
        NamesOnLoan x = Lands.alike(4);
        x.owe(1, 1);
        x.owe(2, 2);
        x.owe(10, 4);
        x.owe(12, 8);
        x.owe(20, 16);
        x.owe(21, 32);
        return x;
    }

    private static void p21Sleeps() {
        Sentences.of(21, "while either NAME is given it sleeps");
        NamesOnLoan x = owing();
        debts(x, 3, 12, 48, 0);
        x.lend(0, 3);
        debts(x, 0, 8, 32, 23);
        x.lend(1, 3);
        debts(x, 0, 0, 0, 63);
        x.lend(0, 0);
        debts(x, 2, 0, 16, 45);
        Sentences.due("OWE adds to what sleeps", x.owe(1, 64), 65);
        debts(x, 2, 0, 16, 109);
    }

    private static void p21AwakeAgain() {
        Sentences.of(21, "while either NAME is given it sleeps");
        NamesOnLoan x = owing();
        x.lend(3, 0);
        debts(x, 3, 12, 48, 0);
        x.lend(2, 1);
        debts(x, 1, 4, 0, 58);
        x.thaw();
        debts(x, 3, 12, 48, 0);
    }

    private static void p22Refused() {
        Sentences.of(22, "WRONG DOORS. BAD; NOT.");
        for (int n : new int[] {-1, 100, MIN, MAX}) {
            Sentences.due("doors(" + n + ")", Lands.some().doors(n), BAD);
            Sentences.due("BAD ahead of NOT: doors(" + n + ")", Lands.empty().doors(n), BAD);
        }
        Sentences.leaves(Lands::some, "doors(9)", x -> x.doors(9));
    }

    private static void p22NoPairs() {
        Sentences.of(22, "10 times the lesser and the other; NOT");
        Sentences.due("without people", Lands.empty().doors(99), NOT);
        Sentences.due("of one", Lands.land(5, 0).doors(9), NOT);
        Sentences.due("of two alike", Lands.alike(2).doors(9), NOT);
    }

    private static void p22MoreThanAsItIs() {
        Sentences.of(22, "(more than as it is; of like ones the first)");
        NamesOnLoan x = Lands.alike(2);
        Lands.law(x, "1+g");
        Sentences.due("less than as it is", x.doors(9), NOT);
        Lands.law(x, "1");
        Sentences.due("as much as it is", x.doors(9), NOT);
        Lands.law(x, "1-g");
        Sentences.due("more by one each", x.doors(1), 1);
        Sentences.due("no DAYS", x.doors(0), NOT);
        Sentences.due("after 99 DAYS", x.doors(99), 1);
        Lands.law(x, "2-g");
        Sentences.due("both are BURNT as it is", x.doors(99), 1);
        Lands.law(x, "4-g");
        Sentences.due("BURNT either way", x.doors(50), NOT);
        Lands.law(x, "s=1?1;1-g");
        x.mend(1, 0, 2);
        Sentences.due("more by one in all", x.doors(1), 1);
    }

    private static void p22OfLikeOnes() {
        Sentences.of(22, "of like ones the first): 10 times the lesser and the other");
        NamesOnLoan x = Lands.alike(8);
        Lands.law(x, "1-g");
        Sentences.due("all alike", x.doors(1), 1);
        Lands.law(x, "s=2&g=0?9;s=3&g=0?9;5");
        x.mend(7, 0, 2);
        Sentences.due("each with 7 alike", x.doors(1), 7);
        x.mend(6, 0, 3);
        Sentences.due("6 and 7 both gain", x.doors(1), 67);
        x.mend(2, 0, 2);
        Sentences.due("26, 27 and 67 alike", x.doors(1), 26);
    }

    private static void p22UnlikeWearers() {
        Sentences.of(22, "two NAMES' WEARERS exchanged (unlike ones)");
        NamesOnLoan x = Lands.alike(3);
        Lands.law(x, "g*5");
        x.lend(0, 2);
        x.lend(1, 2);
        // all are worn by 2, so there are no unlike WEARERS to exchange
        Sentences.due("one wears all", x.doors(9), NOT);
        x.thaw();
        x.lend(0, 1);
        x.lend(1, 0);
        Sentences.due("each has the other's", x.doors(9), 1);
    }

    private static void p22CoatsStay() {
        Sentences.of(22, "of all pairs that by which most is LEFT in all after n DAYS");
        NamesOnLoan x = Lands.land(5, 0, 1, 9);
        x.mend(0, 2, 1);
        x.mend(1, 2, 1);
        Sentences.due("each wears as many as before", x.doors(9), 1);
        NamesOnLoan y = Lands.land(5, 0, 1, 9, 1, 9);
        y.lend(2, 1);
        y.mend(1, 2, 1);
        // 1 wears two, more than its COATS, and may exchange either: name 0 burns 10 alone, 0 with 1
        Sentences.due("one that wears too many", y.doors(9), 1);
    }
}
