/** Promises 37 to 42: what shelves hold, rows and their places, and what the host refuses. */
final class BoundsOfShelves {
    private static final int MIN = Sentences.MIN;
    private static final int MAX = Sentences.MAX;
    private static final int BAD = Sentences.BAD;
    private static final int MISSING = Sentences.MISSING;
    private static final int OTHER_KIND = Sentences.OTHER_KIND;
    private static final int NO_PLACE = Sentences.NO_PLACE;
    private static final int SIZE_BELOW_0 = Sentences.SIZE_BELOW_0;
    private static final long NO_ELEMENT = Long.MIN_VALUE;
    private static final int[] NO_SHELVES = {-1, 6, MIN, MAX};
    private static final int SORTS = 5;
    private static final String ROWS = "a ROW: of 0 bytes, 1 shorts, 2 ints, 3 longs, 4 booleans, of 0 .. 60 elements";

    private BoundsOfShelves() {
    }

    static void run() {
        p37Refused();
        p37SixShelves();
        p37Instead();
        p38Refused();
        p38Sizes();
        p38NoughtAtFirst();
        p38Instead();
        p39Refused();
        p39Places();
        p39LowestBits();
        p40Refused();
        p40Places();
        p41Refused();
        p41Sorts();
        p41Places();
        p41Ends();
        p41AsTheyWere();
        p41LeavesTheRest();
        p42Refused();
        p42Under();
    }

    private static void p37Refused() {
        Sentences.of(37, "A SHELF holds nothing (body -1), or a NAME: 1. BAD.");
        for (int shelf : NO_SHELVES) {
            Sentences.refused(Lands::some, "keep(" + shelf + ", 0)", x -> x.keep(shelf, 0), BAD);
            Sentences.refused(Lands::some, "keep(" + shelf + ", -1)", x -> x.keep(shelf, -1), BAD);
        }
        for (int body : new int[] {-2, 8, 50, MIN, MAX}) {
            Sentences.refused(Lands::some, "keep(0, " + body + ")", x -> x.keep(0, body), BAD);
        }
        Sentences.due("without BODIES", Lands.empty().keep(0, 0), BAD);
        Sentences.refused(Lands::full, "keep(0, 50)", x -> x.keep(0, 50), BAD);
        NamesOnLoan x = Lands.full();
        Sentences.due("the last of fifty", x.keep(0, 49), 1);
        Sentences.due("its KIND", x.taken(0, 1), 1);
    }

    private static void p37SixShelves() {
        Sentences.of(37, "SHELVES 0 .. 5 each hold nothing (at first)");
        NamesOnLoan x = Lands.empty();
        for (int kind = 0; kind < 6; kind++) {
            Sentences.due("at first", x.taken(kind, 0), MISSING);
            x.body(kind);
        }
        for (int shelf = 0; shelf < 6; shelf++) {
            Sentences.due("keep(" + shelf + ", " + shelf + ")", x.keep(shelf, shelf), 1);
        }
        for (int shelf = 0; shelf < 6; shelf++) {
            Sentences.due("taken(" + shelf + ", 0)", x.taken(shelf, 0), shelf);
        }
        Sentences.due("nothing on 3", x.keep(3, -1), 1);
        for (int shelf = 0; shelf < 6; shelf++) {
            Sentences.due("taken(" + shelf + ", 0)", x.taken(shelf, 0), shelf == 3 ? MISSING : shelf);
        }
    }

    private static void p37Instead() {
        Sentences.of(37, "A SHELF holds nothing (body -1), or a NAME: 1");
        NamesOnLoan x = Lands.empty();
        x.body(6);
        Lands.bytes(x, 0, 1, 2, 3);
        Sentences.due("a NAME instead of a ROW", x.keep(0, 0), 1);
        Sentences.due("no ROW", x.put(0, 0, 1), OTHER_KIND);
        Sentences.due("nothing instead of a NAME", x.keep(0, -1), 1);
        Sentences.due("no NAME", x.taken(0, 0), MISSING);
        Sentences.due("nothing instead of nothing", x.keep(0, -1), 1);
        Lands.bytes(x, 0, 1, 2, 3);
        x.keep(0, -1);
        Sentences.due("nothing instead of a ROW", x.put(0, 0, 1), MISSING);
    }

    private static void p38Refused() {
        Sentences.of(38, "A SHELF holds a ROW: 1. BAD (sort, n above 60); -14.");
        for (int shelf : NO_SHELVES) {
            Sentences.refused(Lands::some, "row(" + shelf + ", 0, 3)", x -> x.row(shelf, 0, 3), BAD);
            Sentences.refused(Lands::some, "BAD ahead of -14: row(" + shelf + ", 0, -1)", x -> x.row(shelf, 0, -1), BAD);
        }
        for (int sort : new int[] {-1, 5, MIN, MAX}) {
            Sentences.refused(Lands::some, "row(0, " + sort + ", 3)", x -> x.row(0, sort, 3), BAD);
            Sentences.refused(Lands::some, "BAD ahead of -14: row(0, " + sort + ", -1)", x -> x.row(0, sort, -1), BAD);
        }
        for (int n : new int[] {61, 62, 256, MAX}) {
            Sentences.refused(Lands::some, "row(0, 0, " + n + ")", x -> x.row(0, 0, n), BAD);
        }
        Sentences.of(38, "-14 a size below 0");
        for (int n : new int[] {-1, -60, MIN}) {
            for (int shelf : new int[] {0, 1, 5}) {
                Sentences.refused(Lands::some, "row(" + shelf + ", 4, " + n + ")", x -> x.row(shelf, 4, n), SIZE_BELOW_0);
            }
        }
    }

    private static void p38Sizes() {
        Sentences.of(38, ROWS);
        for (int sort = 0; sort < SORTS; sort++) {
            for (int n : new int[] {0, 1, 2, 59, 60}) {
                NamesOnLoan x = Lands.empty();
                Sentences.due("row(5, " + sort + ", " + n + ")", x.row(5, sort, n), 1);
                Sentences.due("put to the last", x.put(5, n - 1, 1), n == 0 ? NO_PLACE : 1);
                Sentences.due("put behind the last", x.put(5, n, 1), NO_PLACE);
                Sentences.due("the last", x.element(5, n - 1), n == 0 ? NO_ELEMENT : 1);
                Sentences.due("behind the last", x.element(5, n), NO_ELEMENT);
            }
        }
    }

    private static void p38NoughtAtFirst() {
        Sentences.of(38, "0 at first (false)");
        NamesOnLoan x = Lands.empty();
        for (int sort = 0; sort < SORTS; sort++) {
            x.row(0, sort, 60);
            for (int i = 0; i < 60; i += 59) {
                Sentences.due("element(0, " + i + ")", x.element(0, i), 0);
                x.put(0, i, -1);
            }
        }
        x.row(0, 3, 2);
        x.put(0, 1, 7);
        x.row(0, 3, 1);
        x.row(0, 3, 2);
        Sentences.due("a longer one behind a shorter one", x.element(0, 1), 0);
    }

    private static void p38Instead() {
        Sentences.of(38, "A SHELF holds a ROW: 1");
        NamesOnLoan x = Lands.empty();
        x.body(0);
        x.keep(0, 0);
        Sentences.due("a ROW instead of a NAME", x.row(0, 0, 2), 1);
        Sentences.due("no NAME", x.taken(0, 0), OTHER_KIND);
        Sentences.due("a ROW of another sort", x.row(0, 1, 1), 1);
        x.put(0, 0, 300);
        Sentences.due("of shorts", x.element(0, 0), 300);
        Sentences.due("the first one's place", x.put(0, 1, 1), NO_PLACE);
    }

    private static void p39Refused() {
        Sentences.of(39, "Element i of a ROW becomes v: 1. BAD, -11, -12, -13.");
        for (int shelf : NO_SHELVES) {
            Sentences.refused(Lands::some, "put(" + shelf + ", 0, 1)", x -> x.put(shelf, 0, 1), BAD);
            Sentences.refused(Lands::some, "BAD ahead of -13: put(" + shelf + ", -1, 1)", x -> x.put(shelf, -1, 1), BAD);
        }
        Sentences.of(39, "-11 nothing is there where something is wanted");
        Sentences.refused(Lands::some, "put(5, 0, 1)", x -> x.put(5, 0, 1), MISSING);
        Sentences.refused(Lands::some, "-11 ahead of -13: put(5, -1, 1)", x -> x.put(5, -1, 1), MISSING);
        Sentences.of(39, "-12 it is of another kind");
        Sentences.refused(Lands::some, "put(1, 0, 1)", x -> x.put(1, 0, 1), OTHER_KIND);
        Sentences.refused(Lands::some, "-12 ahead of -13: put(1, 60, 1)", x -> x.put(1, 60, 1), OTHER_KIND);
    }

    private static void p39Places() {
        Sentences.of(39, "-13 a place that is not there");
        for (int i : new int[] {-1, 3, 59, 60, MIN, MAX}) {
            Sentences.refused(Lands::some, "put(3, " + i + ", 1)", x -> x.put(3, i, 1), NO_PLACE);
        }
        NamesOnLoan x = Lands.empty();
        x.row(0, 0, 60);
        for (int i = 0; i < 60; i++) {
            Sentences.due("put(0, " + i + ", 7)", x.put(0, i, i + 1), 1);
        }
        for (int i = 0; i < 60; i++) {
            Sentences.due("element(0, " + i + ")", x.element(0, i), i + 1);
        }
    }

    private static void p39LowestBits() {
        Sentences.of(39, "what is put in keeps its lowest bits (a boolean: whether it is not 0; 1 or 0)");
        long[] all = {0, 1, -1, 2, 127, 128, -128, -129, 255, 256, 257, 32767, 32768, -32768, -32769, 65535, 65536, 65537,
            Integer.MAX_VALUE, Integer.MAX_VALUE + 1L, Integer.MIN_VALUE, Integer.MIN_VALUE - 1L, 1L << 32, (1L << 32) + 1, 1L << 40,
            Long.MAX_VALUE, Long.MIN_VALUE, Long.MIN_VALUE + 1};
        NamesOnLoan x = Lands.empty();
        for (int sort = 0; sort < SORTS; sort++) {
            x.row(sort, sort, 1);
        }
        for (long v : all) {
            long[] want = {(byte) v, (short) v, (int) v, v, v == 0 ? 0 : 1};
            for (int sort = 0; sort < SORTS; sort++) {
                Sentences.due("put " + v + " to sort " + sort, x.put(sort, 0, v), 1);
                Sentences.due("element of sort " + sort, x.element(sort, 0), want[sort]);
            }
        }
    }

    private static void p40Refused() {
        Sentences.of(40, "Element i of a ROW; Long.MIN_VALUE: BAD, -11 to -13.");
        for (int shelf : NO_SHELVES) {
            Sentences.due("element(" + shelf + ", 0)", Lands.some().element(shelf, 0), NO_ELEMENT);
        }
        Sentences.due("nothing", Lands.some().element(5, 0), NO_ELEMENT);
        Sentences.due("a NAME", Lands.some().element(1, 0), NO_ELEMENT);
        for (int i : new int[] {-1, 3, 60, MIN, MAX}) {
            Sentences.due("element(3, " + i + ")", Lands.some().element(3, i), NO_ELEMENT);
        }
        for (int shelf = -1; shelf < 7; shelf++) {
            int s = shelf;
            Sentences.leaves(Lands::some, "element(" + shelf + ", 0)", x -> x.element(s, 0));
        }
    }

    private static void p40Places() {
        Sentences.of(40, "Element i of a ROW; Long.MIN_VALUE: BAD, -11 to -13.");
        NamesOnLoan x = Lands.some();
        long[] longs = {1L << 40, -5, 6};
        long[] shorts = {300, -2, 7, 9};
        long[] booleans = {1, 0, 1};
        for (int i = 0; i < 3; i++) {
            Sentences.due("element(3, " + i + ")", x.element(3, i), longs[i]);
            Sentences.due("element(2, " + i + ")", x.element(2, i), shorts[i]);
            Sentences.due("element(4, " + i + ")", x.element(4, i), booleans[i]);
        }
        Sentences.due("element(2, 3)", x.element(2, 3), 9);
        Sentences.due("element(2, 4)", x.element(2, 4), NO_ELEMENT);
    }

    /** Rows of bytes on shelves 0 (five: 1 to 5) and 2 (three: 11 to 13), a NAME on 1, shorts on 3, nothing on 5. */
    private static NamesOnLoan rows() {
        NamesOnLoan x = Lands.land(3, 5);
        Lands.bytes(x, 0, 1, 2, 3, 4, 5);
        x.body(4);
        x.keep(1, 0);
        Lands.bytes(x, 2, 11, 12, 13);
        Lands.row(x, 3, 1, 21, 22, 23);
        return x;
    }

    private static void notShifted(String why, int want, int shelf, int i, int other, int j, int n) {
        String call = why + ": shift(" + shelf + ", " + i + ", " + other + ", " + j + ", " + n + ")";
        Sentences.refused(BoundsOfShelves::rows, call, x -> x.shift(shelf, i, other, j, n), want);
    }

    private static void p41Refused() {
        Sentences.of(41, "BAD, -11 (either), -12 (no ROWS, or of unlike sorts), -13");
        for (int shelf : NO_SHELVES) {
            notShifted("no SHELF", BAD, shelf, 0, 2, 0, 1);
            notShifted("no other SHELF", BAD, 0, 0, shelf, 0, 1);
            notShifted("BAD ahead of -11", BAD, shelf, 0, 5, 0, 1);
            notShifted("BAD ahead of -11", BAD, 5, 0, shelf, 0, 1);
            notShifted("BAD ahead of -12", BAD, shelf, 0, 1, 0, 1);
        }
        notShifted("nothing", MISSING, 5, 0, 2, 0, 1);
        notShifted("nothing on the other", MISSING, 0, 0, 5, 0, 1);
        notShifted("nothing on either", MISSING, 5, 0, 4, 0, 1);
        notShifted("-11 ahead of -12", MISSING, 1, 0, 5, 0, 1);
        notShifted("-11 ahead of -12", MISSING, 5, 0, 1, 0, 1);
        notShifted("-11 ahead of -13", MISSING, 0, 9, 5, 0, 1);
        notShifted("-11 ahead of -13", MISSING, 5, 0, 0, 0, -1);
        notShifted("a NAME", OTHER_KIND, 1, 0, 0, 0, 1);
        notShifted("to a NAME", OTHER_KIND, 0, 0, 1, 0, 1);
        notShifted("a NAME to itself", OTHER_KIND, 1, 0, 1, 0, 0);
        notShifted("unlike sorts", OTHER_KIND, 0, 0, 3, 0, 1);
        notShifted("unlike sorts, none", OTHER_KIND, 3, 0, 0, 0, 0);
        notShifted("-12 ahead of -13", OTHER_KIND, 0, 9, 3, 0, 1);
        notShifted("-12 ahead of -13", OTHER_KIND, 0, 0, 1, 0, -1);
    }

    private static void p41Sorts() {
        Sentences.of(41, "-12 (no ROWS, or of unlike sorts)");
        for (int one = 0; one < SORTS; one++) {
            for (int other = 0; other < SORTS; other++) {
                NamesOnLoan x = Lands.empty();
                Lands.row(x, 0, one, 1, 0, 1);
                Lands.row(x, 1, other, 0, 0, 0);
                Sentences.due("from " + one + " to " + other, x.shift(0, 0, 1, 0, 3), one == other ? 3 : OTHER_KIND);
                Sentences.due("the first", x.element(1, 0), one == other ? 1 : 0);
            }
        }
    }

    private static void p41Places() {
        Sentences.of(41, "-13 a place that is not there");
        notShifted("from ahead", NO_PLACE, 0, -1, 2, 0, 1);
        notShifted("to ahead", NO_PLACE, 0, 0, 2, -1, 1);
        notShifted("from ahead, none", NO_PLACE, 0, -1, 2, 0, 0);
        notShifted("to ahead, none", NO_PLACE, 0, 0, 2, -1, 0);
        notShifted("fewer than none", NO_PLACE, 0, 0, 2, 0, -1);
        notShifted("fewer than none", NO_PLACE, 0, 3, 2, 3, -3);
        notShifted("fewer than none", NO_PLACE, 0, 0, 0, 0, MIN);
        notShifted("behind the end", NO_PLACE, 0, 5, 2, 0, 1);
        notShifted("over the end", NO_PLACE, 0, 3, 2, 0, 3);
        notShifted("to over the end", NO_PLACE, 0, 0, 2, 1, 3);
        notShifted("to behind the end", NO_PLACE, 0, 0, 2, 3, 1);
        notShifted("more than there are", NO_PLACE, 2, 0, 0, 0, 4);
        notShifted("to more than there are", NO_PLACE, 0, 0, 2, 0, 4);
        notShifted("behind the end, none", NO_PLACE, 0, 6, 2, 0, 0);
        notShifted("to behind the end, none", NO_PLACE, 0, 0, 2, 4, 0);
        notShifted("a sum that wraps", NO_PLACE, 0, MAX, 2, 0, 1);
        notShifted("a sum that wraps", NO_PLACE, 0, 1, 2, 0, MAX);
        notShifted("a sum that wraps", NO_PLACE, 0, 0, 2, MAX, 1);
        notShifted("a sum that wraps", NO_PLACE, 0, MAX, 0, MAX, MAX);
        notShifted("in itself over the end", NO_PLACE, 0, 0, 0, 1, 5);
    }

    private static void p41Ends() {
        Sentences.of(41, "n elements of a ROW from i on come to another one (or the same) from j on");
        Sentences.refused(BoundsOfShelves::rows, "none", x -> x.shift(0, 0, 2, 0, 0), 0);
        Sentences.refused(BoundsOfShelves::rows, "none, at both ends", x -> x.shift(0, 5, 2, 3, 0), 0);
        Sentences.refused(BoundsOfShelves::rows, "all to where they are", x -> x.shift(0, 0, 0, 0, 5), 5);
        NamesOnLoan x = rows();
        Sentences.due("the last to the last", x.shift(0, 4, 2, 2, 1), 1);
        Sentences.due("the last", x.element(2, 2), 5);
        Sentences.due("the second stays", x.element(2, 1), 12);
        Sentences.due("all of three", x.shift(2, 0, 0, 2, 3), 3);
        int[] want = {1, 2, 11, 12, 5};
        for (int k = 0; k < 5; k++) {
            Sentences.due("element(0, " + k + ")", x.element(0, k), want[k]);
        }
        NamesOnLoan y = Lands.empty();
        y.row(0, 3, 60);
        y.row(1, 3, 60);
        y.put(0, 0, 1L << 50);
        y.put(0, 59, -1);
        Sentences.due("all of sixty", y.shift(0, 0, 1, 0, 60), 60);
        Sentences.due("the first of sixty", y.element(1, 0), 1L << 50);
        Sentences.due("the last of sixty", y.element(1, 59), -1);
        y.row(2, 3, 0);
        Sentences.due("none of none", y.shift(2, 0, 2, 0, 0), 0);
        Sentences.due("one of none", y.shift(2, 0, 2, 0, 1), NO_PLACE);
    }

    private static void p41AsTheyWere() {
        Sentences.of(41, "as they all were before");
        for (int i = 0; i <= 5; i++) {
            for (int j = 0; j <= 5; j++) {
                for (int n = 0; n <= 5 - Math.max(i, j); n++) {
                    NamesOnLoan x = rows();
                    Sentences.due("in itself", x.shift(0, i, 0, j, n), n);
                    for (int k = 0; k < 5; k++) {
                        int want = k >= j && k < j + n ? k - j + i + 1 : k + 1;
                        Sentences.due("shift(0, " + i + ", 0, " + j + ", " + n + "), then " + k, x.element(0, k), want);
                    }
                }
            }
        }
    }

    private static void p41LeavesTheRest() {
        Sentences.of(41, "from j on, as they all were before: n");
        NamesOnLoan x = rows();
        Sentences.due("two", x.shift(2, 1, 0, 1, 2), 2);
        int[] to = {1, 12, 13, 4, 5};
        for (int k = 0; k < 5; k++) {
            Sentences.due("element(0, " + k + ")", x.element(0, k), to[k]);
        }
        for (int k = 0; k < 3; k++) {
            Sentences.due("element(2, " + k + ") stays", x.element(2, k), 11 + k);
        }
        x.put(2, 1, 9);
        Sentences.due("it is a copy", x.element(0, 1), 12);
    }

    private static void p42Refused() {
        Sentences.of(42, "taken for a NAME of KIND k (0 .. 7), or under it: its KIND. BAD, -11, -12.");
        for (int shelf : NO_SHELVES) {
            Sentences.due("taken(" + shelf + ", 0)", Lands.some().taken(shelf, 0), BAD);
        }
        for (int k : new int[] {-1, 8, MIN, MAX}) {
            Sentences.due("taken(1, " + k + ")", Lands.some().taken(1, k), BAD);
            Sentences.due("BAD ahead of -11: taken(5, " + k + ")", Lands.some().taken(5, k), BAD);
            Sentences.due("BAD ahead of -12: taken(0, " + k + ")", Lands.some().taken(0, k), BAD);
        }
        for (int k = 0; k < 8; k++) {
            int kind = k;
            Sentences.due("nothing: taken(5, " + k + ")", Lands.some().taken(5, k), MISSING);
            for (int shelf : new int[] {0, 2, 3, 4}) {
                Sentences.due("a ROW: taken(" + shelf + ", " + k + ")", Lands.some().taken(shelf, k), OTHER_KIND);
            }
            Sentences.leaves(Lands::some, "taken(1, " + k + ")", x -> x.taken(1, kind));
        }
    }

    private static void p42Under() {
        Sentences.of(42, "0 NAME; 1 COAT under NAME; 2 LENT under NAME; 3 FROZEN under LENT; 4 HOUSE under COAT; 5 CRACKED under FROZEN");
        String[] under = {"0", "01", "02", "023", "014", "0235", "06", "0147"};
        NamesOnLoan x = Lands.empty();
        for (int kind = 0; kind < 8; kind++) {
            x.body(kind);
            x.keep(0, kind);
            for (int k = 0; k < 8; k++) {
                boolean is = under[kind].indexOf('0' + k) >= 0;
                Sentences.due("KIND " + kind + " taken for " + k, x.taken(0, k), is ? kind : OTHER_KIND);
            }
        }
    }
}
