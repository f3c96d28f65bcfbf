/** Promises 34 to 36 and 43: bodies, acts, the trace, and what is counted. */
final class BoundsOfActs {
    private static final int MIN = Sentences.MIN;
    private static final int MAX = Sentences.MAX;
    private static final int BAD = Sentences.BAD;
    private static final int FULL = Sentences.FULL;

    private BoundsOfActs() {
    }

    static void run() {
        p34Kinds();
        p34Fifty();
        p35NoSuch();
        p35NoTraceThen();
        p35Wraps();
        p35ItsNumber();
        p36Places();
        p36LatestAct();
        p36AllAreKept();
        p43Whats();
        p43Most();
        p43Refused();
    }

    private static void p34Kinds() {
        Sentences.of(34, "A NAME of a KIND (0 .. 7) is kept: its number. BAD, FULL.");
        for (int kind : new int[] {-1, 8, MIN, MAX, 256}) {
            Sentences.refused(Lands::some, "body(" + kind + ")", x -> x.body(kind), BAD);
        }
        NamesOnLoan x = Lands.empty();
        for (int kind = 0; kind < 8; kind++) {
            Sentences.due("body(" + kind + ")", x.body(kind), kind);
            x.keep(0, kind);
            Sentences.due("its KIND", x.taken(0, 0), kind);
        }
    }

    private static void p34Fifty() {
        Sentences.of(34, "BODIES 0 .. 49");
        NamesOnLoan x = Lands.empty();
        for (int k = 0; k < 50; k++) {
            Sentences.due("body no " + k, x.body(7 - k % 8), k);
            Sentences.due("count(4)", x.count(4), k + 1);
        }
        Sentences.due("a fiftieth acts", x.act(49, 2, 0), 49);
        Sentences.refused(Lands::full, "body(0)", y -> y.body(0), FULL);
        Sentences.refused(Lands::full, "body(7)", y -> y.body(7), FULL);
        Sentences.of(34, "Answers, of several the one named first: BAD");
        Sentences.refused(Lands::full, "BAD ahead of FULL: body(8)", y -> y.body(8), BAD);
        Sentences.refused(Lands::full, "BAD ahead of FULL: body(-1)", y -> y.body(-1), BAD);
    }

    private static void p35NoSuch() {
        Sentences.of(35, "0, and no TRACE then: no such NAME, ACT");
        for (int no : new int[] {-1, 8, 50, MIN, MAX}) {
            Sentences.due("act(" + no + ", 0, 5)", Lands.some().act(no, 0, 5), 0);
        }
        for (int no : new int[] {-1, 4, 7, MIN, MAX}) {
            Sentences.due("act(0, " + no + ", 5)", Lands.some().act(0, no, 5), 0);
        }
        Sentences.due("without BODIES", Lands.empty().act(0, 0, 5), 0);
        Sentences.due("the last of fifty", Lands.full().act(49, 0, 5), 5 + 49 + 3);
        Sentences.due("behind the last of fifty", Lands.full().act(50, 0, 5), 0);
    }

    private static void p35NoTraceThen() {
        Sentences.of(35, "0, and no TRACE then: no such NAME, ACT");
        int[][] no = {{8, 0}, {-1, 3}, {0, 4}, {0, -1}, {9, 9}};
        for (int[] one : no) {
            NamesOnLoan x = Lands.some();
            Sentences.due("a TRACE ahead", x.trace(0), 81);
            x.act(one[0], one[1], 5);
            Sentences.due("no TRACE", x.trace(0), BAD);
            Sentences.due("none ran", x.count(5), 0);
            Sentences.leaves(BoundsOfActs::acted, "act(" + one[0] + ", " + one[1] + ", 5) ahead of an act", y -> {
                y.act(one[0], one[1], 5);
                return y.act(0, 0, 1);
            });
        }
    }

    private static NamesOnLoan acted() {
        NamesOnLoan x = Lands.some();
        x.act(0, 0, 1);
        return x;
    }

    private static void p35Wraps() {
        Sentences.of(35, "ACTS with x (an int that wraps)");
        NamesOnLoan x = Lands.empty();
        for (int kind = 0; kind < 8; kind++) {
            x.body(kind);
        }
        Sentences.due("NAME wears MAX", x.act(0, 0, MAX), MAX);
        Sentences.due("NAME freezes MAX", x.act(0, 1, MAX), -2);
        Sentences.due("NAME freezes MIN", x.act(0, 1, MIN), 0);
        Sentences.due("COAT wears MAX", x.act(1, 0, MAX), MIN + 3);
        Sentences.due("COAT wears MAX - 4", x.act(1, 0, MAX - 4), MAX);
        Sentences.due("LENT freezes MIN", x.act(2, 1, MIN), -4);
        Sentences.due("LENT freezes to MIN, which has no other sign", x.act(2, 1, (1 << 30) - 2), MIN);
        Sentences.due("FROZEN calls MAX", x.act(3, 2, MAX), (MAX ^ 3) * 3);
        Sentences.due("FROZEN freezes MAX", x.act(3, 1, MAX), -((MIN + 3) * 2));
        Sentences.due("HOUSE calls MIN", x.act(4, 2, MIN), (MIN ^ 4) - 9);
        Sentences.due("CRACKED tells MAX", x.act(5, 3, MAX), (-((MIN + 5) * 2) - (1 ^ 5) * 3) ^ 5);
        Sentences.due("LETTER wears MAX", x.act(6, 0, MAX), (MIN + 5) * 2);
        Sentences.due("LETTER freezes MAX", x.act(6, 1, MAX), (MIN + 5) * 4);
        Sentences.due("NOBODY tells MIN", x.act(7, 3, MIN), (MIN + 10) * 2 + ((2 ^ 7) - 12) - ((1 ^ 7) - 12) - 1);
    }

    private static void p35ItsNumber() {
        Sentences.of(35, "3 tells; n its number");
        NamesOnLoan x = Lands.full();
        for (int body = 0; body < 50; body++) {
            if (body % 8 == 0) {
                Sentences.due("wears of " + body, x.act(body, 0, 100), 100 + body);
                Sentences.due("calls of " + body, x.act(body, 2, 100), 100 ^ body);
            }
        }
    }

    private static void p36Places() {
        Sentences.of(36, "THE TRACE's i-th body. BAD.");
        for (int i : new int[] {-1, 14, 23, 24, 25, MIN, MAX}) {
            Sentences.due("trace(" + i + ")", Lands.some().trace(i), BAD);
        }
        Sentences.due("trace(0)", Lands.some().trace(0), 81);
        Sentences.due("trace(13)", Lands.some().trace(13), 1);
        Sentences.due("without an act", Lands.empty().trace(0), BAD);
        Sentences.leaves(Lands::some, "trace(0)", x -> x.trace(0));
        Sentences.leaves(Lands::some, "trace(99)", x -> x.trace(99));
    }

    private static void p36LatestAct() {
        Sentences.of(36, "numbers of the bodies that ran in the latest act(), as they began");
        NamesOnLoan x = Lands.some();
        x.act(1, 1, 9);
        int[] want = {10, 20, 1, BAD};
        for (int i = 0; i < 4; i++) {
            Sentences.due("trace(" + i + ")", x.trace(i), want[i]);
        }
        Sentences.due("count(5)", x.count(5), 3);
    }

    private static void p36AllAreKept() {
        Sentences.of(36, "the first 24 are kept");
        NamesOnLoan x = Lands.some();
        int most = 0;
        for (int kind = 0; kind < 8; kind++) {
            for (int act = 0; act < 4; act++) {
                x.act(kind, act, 1);
                int ran = x.count(5);
                most = Math.max(most, ran);
                String told = "kind " + kind + ", act " + act + ": ";
                Sentences.due(told + "the last that ran is kept", x.trace(ran - 1) == BAD ? 0 : 1, 1);
                Sentences.due(told + "none behind it", x.trace(ran), BAD);
                Sentences.due(told + "none at 24", x.trace(24), BAD);
            }
        }
        // no act of these kinds lets more than fourteen run, so none comes to the end of THE TRACE
        Sentences.due("the most that run in an act", most, 14);
    }

    private static void p43Whats() {
        Sentences.of(43, "How many: 0 PEOPLE, 1 NAMES that are given, 2 bytes on THE TAPE, 3 changes that may be UNDONE, 4 BODIES, 5");
        for (int what : new int[] {-1, 6, MIN, MAX}) {
            Sentences.due("count(" + what + ")", Lands.some().count(what), BAD);
        }
        int[] some = {4, 1, 3, 4, 8, 14};
        for (int what = 0; what < 6; what++) {
            int w = what;
            Sentences.due("without anything: count(" + what + ")", Lands.empty().count(what), 0);
            Sentences.due("count(" + what + ")", Lands.some().count(what), some[what]);
            Sentences.leaves(Lands::some, "count(" + what + ")", x -> x.count(w));
        }
    }

    private static void p43Most() {
        Sentences.of(43, "3 changes that may be UNDONE, 4 BODIES, 5 bodies that ran in the latest act() (all, kept or not)");
        int[] full = {8, 2, 120, 40, 50, 7};
        for (int what = 0; what < 6; what++) {
            Sentences.due("count(" + what + ")", Lands.full().count(what), full[what]);
        }
    }

    private static void p43Refused() {
        Sentences.of(43, "What is answered so changes nothing");
        NamesOnLoan x = Lands.full();
        x.person(1, 1);
        x.feed('1');
        x.body(1);
        x.lend(0, 9);
        x.mend(0, 0, 10);
        x.trace(99);
        int[] full = {8, 2, 120, 40, 50, 7};
        for (int what = 0; what < 6; what++) {
            Sentences.due("count(" + what + ")", x.count(what), full[what]);
        }
    }
}
