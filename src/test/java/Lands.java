/** Objects in several states, each made anew by at most some 260 calls. */
final class Lands {
    private Lands() {
    }

    /** People by pairs of SYLLABLES and OUT. */
    static NamesOnLoan land(int... pairs) {
        NamesOnLoan x = new NamesOnLoan();
        for (int k = 0; k + 1 < pairs.length; k += 2) {
            x.person(pairs[k], pairs[k + 1]);
        }
        return x;
    }

    /** So many people of one SYLLABLE who stay in their beds. */
    static NamesOnLoan alike(int many) {
        NamesOnLoan x = new NamesOnLoan();
        for (int k = 0; k < many; k++) {
            x.person(1, 0);
        }
        return x;
    }

    static void feed(NamesOnLoan x, String text) {
        for (int k = 0; k < text.length(); k++) {
            x.feed(text.charAt(k));
        }
    }

    static int law(NamesOnLoan x, String text) {
        feed(x, text);
        return x.law();
    }

    static void row(NamesOnLoan x, int shelf, int sort, long... values) {
        x.row(shelf, sort, values.length);
        for (int k = 0; k < values.length; k++) {
            x.put(shelf, k, values[k]);
        }
    }

    static void bytes(NamesOnLoan x, int shelf, long... values) {
        row(x, shelf, 0, values);
    }

    static NamesOnLoan empty() {
        return new NamesOnLoan();
    }

    /** Something of everything: four people, lendings, debts, an image, a law, a tape, changes both ways. */
    static NamesOnLoan some() {
        NamesOnLoan x = land(3, 5, 1, 0, 4, 2, 2, 9);
        fill(x);
        return x;
    }

    /** The same with six people: too many for all ways to wear. */
    static NamesOnLoan six() {
        NamesOnLoan x = land(3, 5, 1, 0, 4, 2, 2, 9, 5, 1, 6, 3);
        fill(x);
        return x;
    }

    private static void fill(NamesOnLoan x) {
        x.mend(1, 3, 1);
        x.mend(0, 5, 3);
        x.mend(3, 2, 2);
        x.lend(0, 3);
        x.lend(2, 1);
        x.owe(1, 9);
        x.owe(12, 5);
        x.owe(31, 4);
        x.pass(3);
        x.image();
        x.lend(1, 2);
        x.lend(2, 2);
        x.owe(2, 6);
        x.thaw();
        x.lend(0, 3);
        x.pass(2);
        x.mend(0, 4, 7);
        x.mend(2, 0, 5);
        x.mend(2, 1, 6);
        x.undo();
        x.undo();
        law(x, "c*s-o+n*2-g*3");
        feed(x, "1+s");
        for (int kind = 0; kind < 8; kind++) {
            x.body(kind);
        }
        x.act(7, 3, 5);
        bytes(x, 0, 0, 0, 3, 5, 2, 2, 1, 1, 1);
        x.keep(1, 5);
        row(x, 2, 1, 300, -2, 7, 9);
        row(x, 3, 3, 1L << 40, -5, 6);
        row(x, 4, 4, 1, 0, 1);
    }

    /** All that can be full is full: PEOPLE, THE TAPE, BODIES, changes. */
    static NamesOnLoan full() {
        NamesOnLoan x = land(3, 5, 1, 0, 4, 2, 2, 9, 5, 1, 6, 3, 7, 8, 9, 4);
        x.lend(0, 3);
        x.lend(4, 3);
        x.owe(67, 8);
        x.pass(1);
        x.image();
        for (int k = 0; k < 41; k++) {
            x.mend(k % 8, 1, (k / 8 + 4 + k) % 10);
        }
        feed(x, "12");
        for (int k = 0; k < 59; k++) {
            feed(x, "+s");
        }
        for (int k = 0; k < 50; k++) {
            x.body(k % 8);
        }
        x.act(3, 3, 1);
        bytes(x, 0, 2, 2, 2);
        return x;
    }
}
