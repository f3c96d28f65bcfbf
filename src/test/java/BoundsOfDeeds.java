/** Promises 26 to 33: lendings, days and thaws in deed, the image, changes undone and done again. */
final class BoundsOfDeeds {
    private static final int MIN = Sentences.MIN;
    private static final int MAX = Sentences.MAX;
    private static final int BAD = Sentences.BAD;
    private static final int STATE = Sentences.STATE;
    private static final int[] NO_NAMES = {-1, 4, 8, MIN, MAX};

    private BoundsOfDeeds() {
    }

    static void run() {
        p26Refused();
        p26Coats();
        p26CoatsMendedToFewer();
        p26ToItsWearer();
        p26Home();
        p27Days();
        p27AtLeast0();
        p27AsTheDayBegan();
        p27NoPeople();
        p28Minutes();
        p28LeftStays();
        p28AllHomeAlready();
        p29Whats();
        p29Counts();
        p29BurntNow();
        p29UpTo512Calls();
        p30Days();
        p31None();
        p31WhatItKeeps();
        p31WhatItDoesNotKeep();
        p31PeopleThatCameSince();
        p31AgainAndAgain();
        p32None();
        p32SameNumber();
        p32LatestFirst();
        p32FortyAtMost();
        p32FortyOfAll();
        p32DeedsAreNone();
        p33None();
        p33NoOtherBehind();
        p33WhatKeepsThem();
        p33Forty();
    }

    private static void p26Refused() {
        Sentences.of(26, "LEND: who wore it. BAD; STATE: one may wear no more.");
        for (int no : NO_NAMES) {
            Sentences.refused(Lands::some, "lend(" + no + ", 0)", x -> x.lend(no, 0), BAD);
            Sentences.refused(Lands::some, "lend(0, " + no + ")", x -> x.lend(0, no), BAD);
            Sentences.refused(Lands::some, "BAD ahead of STATE: lend(" + no + ", 3)", x -> x.lend(no, 3), BAD);
        }
        // in this land 3 has two COATS and wears two NAMES
        Sentences.refused(Lands::some, "lend(1, 3)", x -> x.lend(1, 3), STATE);
        Sentences.refused(Lands::some, "lend(2, 3)", x -> x.lend(2, 3), STATE);
        Sentences.due("without people", Lands.empty().lend(0, 0), BAD);
    }

    private static void p26Coats() {
        Sentences.of(26, "LEND a NAME to one (who may wear one more");
        for (int coats = 1; coats <= 9; coats++) {
            NamesOnLoan x = Lands.alike(8);
            x.mend(7, 2, coats);
            for (int name = 0; name < 7; name++) {
                boolean may = name + 1 < coats;
                Sentences.due(coats + " COATS: lend(" + name + ", 7)", x.lend(name, 7), may ? name : STATE);
                Sentences.due("WEARER of " + name, x.of(name, 10), may ? 7 : name);
            }
            Sentences.due(coats + " COATS: lendings", x.led(1), Math.min(coats - 1, 7));
            Sentences.due(coats + " COATS: NAMES it wears", x.of(7, 13), Math.min(coats, 8));
        }
    }

    private static void p26CoatsMendedToFewer() {
        Sentences.of(26, "(COATS mended to fewer than it wears: it may wear no more)");
        NamesOnLoan x = Lands.alike(5);
        x.lend(0, 4);
        x.lend(1, 4);
        x.mend(4, 2, 1);
        Sentences.due("it wears three", x.of(4, 13), 3);
        Sentences.due("no more", x.lend(2, 4), STATE);
        x.lend(0, 0);
        x.lend(1, 1);
        Sentences.due("as many as COATS: no more", x.lend(2, 4), STATE);
        x.lend(4, 0);
        Sentences.due("none: one more", x.lend(2, 4), 2);
    }

    private static void p26ToItsWearer() {
        Sentences.of(26, "to its WEARER: nothing is otherwise, no lending");
        Sentences.refused(Lands::some, "lend(0, 3)", x -> x.lend(0, 3), 3);
        Sentences.refused(Lands::some, "lend(3, 3)", x -> x.lend(3, 3), 3);
        Sentences.refused(Lands::some, "lend(1, 1)", x -> x.lend(1, 1), 1);
        NamesOnLoan x = Lands.alike(2);
        x.lend(0, 1);
        x.mend(1, 2, 1);
        Sentences.due("who may wear no more", x.lend(0, 1), 1);
        Sentences.due("one lending", x.led(1), 1);
    }

    private static void p26Home() {
        Sentences.of(26, "LEND: who wore it. BAD; STATE: one may wear no more.");
        NamesOnLoan x = Lands.alike(3);
        x.mend(0, 2, 1);
        x.lend(0, 1);
        x.lend(2, 0);
        Sentences.due("the owner may wear no more", x.lend(0, 0), STATE);
        Sentences.due("it stays", x.of(0, 10), 1);
        x.lend(2, 2);
        Sentences.due("the owner may", x.lend(0, 0), 1);
        Sentences.due("lendings, home too", x.led(1), 4);
    }

    private static void p27Days() {
        Sentences.of(27, "n DAYS (1 .. 99) pass: LEFT in all. BAD.");
        for (int n : new int[] {0, -1, 100, MIN, MAX, 257}) {
            Sentences.refused(Lands::some, "pass(" + n + ")", x -> x.pass(n), BAD);
        }
        for (int n = 1; n <= 99; n++) {
            NamesOnLoan x = Lands.land(3, 0);
            Lands.law(x, "1");
            Sentences.due("pass(" + n + ")", x.pass(n), 100 - n);
            Sentences.due("LEFT", x.of(0, 11), 100 - n);
            Sentences.due("DAYS", x.led(0), n);
        }
    }

    private static void p27AtLeast0() {
        Sentences.of(27, "LEFT of each NAME is less by that (0 at least)");
        NamesOnLoan x = Lands.land(1, 0, 1, 0);
        Lands.law(x, "g?0;33");
        Sentences.due("pass(3)", x.pass(3), 2);
        Sentences.due("pass(1)", x.pass(1), 0);
        Sentences.due("LEFT", x.of(0, 11), 0);
        Sentences.due("pass(99)", x.pass(99), 0);
        Sentences.due("LEFT", x.of(1, 11), 0);
    }

    private static void p27AsTheDayBegan() {
        Sentences.of(27, "all by WEARERS as the day began");
        NamesOnLoan x = Lands.land(1, 0, 1, 0, 1, 0);
        Lands.law(x, "n*10+g");
        x.lend(0, 2);
        Sentences.due("pass(2)", x.pass(2), 300 - 42 - 20 - 40);
        Sentences.due("LEFT of 0", x.of(0, 11), 58);
        Sentences.due("LEFT of 1", x.of(1, 11), 80);
        Sentences.due("LEFT of 2", x.of(2, 11), 60);
    }

    private static void p27NoPeople() {
        Sentences.of(27, "n DAYS (1 .. 99) pass: LEFT in all. BAD.");
        NamesOnLoan x = Lands.empty();
        Sentences.due("pass(99)", x.pass(99), 0);
        Sentences.due("pass(100)", x.pass(100), BAD);
        Sentences.due("DAYS", x.led(0), 99);
    }

    private static void p28Minutes() {
        Sentences.of(28, "THAW: all are home (the minutes as told)");
        NamesOnLoan x = Lands.alike(8);
        x.mend(7, 2, 9);
        for (int k = 1; k <= 7; k++) {
            for (int name = 0; name < k; name++) {
                x.lend(name, 7);
            }
            Sentences.due("the minutes of " + k, x.thaw(), k);
            Sentences.due("none is given", x.count(1), 0);
            for (int name = 0; name < 8; name++) {
                Sentences.due("WEARER of " + name, x.of(name, 10), name);
            }
            Sentences.due("THAWS", x.led(2), k);
            Sentences.due("lendings", x.led(1), k * (k + 1) / 2);
        }
    }

    private static void p28LeftStays() {
        Sentences.of(28, "LEFT stays");
        NamesOnLoan x = Lands.some();
        int[] rest = new int[4];
        for (int name = 0; name < 4; name++) {
            rest[name] = x.of(name, 11);
        }
        x.thaw();
        for (int name = 0; name < 4; name++) {
            Sentences.due("LEFT of " + name, x.of(name, 11), rest[name]);
        }
    }

    private static void p28AllHomeAlready() {
        Sentences.of(28, "THAW: all are home (the minutes as told)");
        NamesOnLoan x = Lands.alike(2);
        Sentences.due("all were home", x.thaw(), 0);
        Sentences.due("THAWS", x.led(2), 1);
        NamesOnLoan y = Lands.empty();
        Sentences.due("without people", y.thaw(), 0);
        Sentences.due("THAWS without people", y.led(2), 1);
    }

    private static void p29Whats() {
        Sentences.of(29, "LED: DAYS (what 0), lendings (1), THAWS (2), BURNT now (3). BAD.");
        for (int what : new int[] {-1, 4, MIN, MAX}) {
            Sentences.due("led(" + what + ")", Lands.some().led(what), BAD);
        }
        for (int what = 0; what < 4; what++) {
            int w = what;
            Sentences.due("without people: led(" + what + ")", Lands.empty().led(what), 0);
            Sentences.leaves(Lands::some, "led(" + what + ")", x -> x.led(w));
        }
    }

    private static void p29Counts() {
        Sentences.of(29, "LED: DAYS, lendings, THAWS, NAMES BURNT now");
        NamesOnLoan x = Lands.alike(2);
        x.mend(1, 2, 1);
        x.lend(0, 1);
        x.lend(0, 0);
        x.pass(0);
        x.pass(100);
        Sentences.due("nothing that was refused is led", x.led(0) + x.led(1) + x.led(2), 0);
        x.lend(1, 0);
        x.pass(99);
        x.pass(1);
        x.thaw();
        x.thaw();
        Sentences.due("DAYS", x.led(0), 100);
        Sentences.due("lendings", x.led(1), 1);
        Sentences.due("THAWS", x.led(2), 2);
    }

    private static void p29BurntNow() {
        Sentences.of(29, "NAMES BURNT now");
        NamesOnLoan x = Lands.land(1, 0, 2, 0, 9, 0);
        Lands.law(x, "s=1?50;s=2?49;1");
        x.pass(2);
        Sentences.due("0, 2 and 98 are LEFT", x.led(3), 1);
        x.pass(1);
        Sentences.due("0, 0 and 97 are LEFT", x.led(3), 2);
        x.person(1, 0);
        Sentences.due("one more came", x.led(3), 2);
        NamesOnLoan y = Lands.alike(8);
        Sentences.due("none of eight", y.led(3), 0);
        Lands.law(y, "99");
        y.pass(1);
        Sentences.due("none of eight yet", y.led(3), 0);
        y.pass(1);
        Sentences.due("all of eight", y.led(3), 8);
    }

    private static void p29UpTo512Calls() {
        Sentences.of(29, "An object is used for at most 512 calls after it has been made");
        NamesOnLoan lends = Lands.alike(2);
        NamesOnLoan passes = Lands.alike(2);
        NamesOnLoan thaws = Lands.alike(2);
        NamesOnLoan mends = Lands.alike(2);
        for (int call = 3; call < 512; call++) {
            lends.lend(0, call % 2);
            passes.pass(99);
            thaws.thaw();
            mends.mend(0, 1, call % 10);
        }
        Sentences.due("lendings, by the 512th call", lends.led(1), 509);
        Sentences.due("DAYS, by the 512th call", passes.led(0), 509 * 99);
        Sentences.due("THAWS, by the 512th call", thaws.led(2), 509);
        Sentences.due("undo(), as the 512th call", mends.undo(), 39);
    }

    private static void p30Days() {
        Sentences.of(30, "AN IMAGE is kept: DAYS.");
        NamesOnLoan x = Lands.empty();
        Sentences.due("image()", x.image(), 0);
        x.pass(99);
        Sentences.due("image()", x.image(), 99);
        x.pass(99);
        Sentences.due("image()", x.image(), 198);
        Sentences.due("an image of nothing else", x.count(0), 0);
        for (int part = 0; part < Whole.PARTS; part++) {
            NamesOnLoan y = Lands.some();
            y.image();
            boolean like = Whole.part(y, part).equals(Whole.part(Lands.some(), part));
            Sentences.due("but for the image nothing is otherwise, part " + part, like || part == Whole.IMAGE ? 1 : 0, 1);
        }
    }

    private static void p31None() {
        Sentences.of(31, "STATE: there is none");
        Sentences.refused(Lands::empty, "back()", NamesOnLoan::back, STATE);
        Sentences.refused(() -> Lands.land(3, 5, 2, 7), "back()", NamesOnLoan::back, STATE);
        NamesOnLoan x = Lands.empty();
        x.image();
        Sentences.due("an image of nothing is one", x.back(), 0);
    }

    private static void p31WhatItKeeps() {
        Sentences.of(31, "AN IMAGE keeps WEARERS, LEFT, debts, what LED tells");
        NamesOnLoan x = Lands.land(3, 5, 1, 0, 4, 2);
        x.lend(0, 1);
        x.lend(2, 1);
        x.pass(7);
        x.owe(1, 9);
        x.owe(20, 8);
        x.thaw();
        x.lend(1, 2);
        x.image();
        StringBuilder was = new StringBuilder();
        tell(x, was);
        x.pass(99);
        x.lend(0, 1);
        x.owe(1, 50);
        x.owe(20, -8);
        x.owe(2, 3);
        x.thaw();
        StringBuilder between = new StringBuilder();
        tell(x, between);
        Sentences.due("much is otherwise", was.toString().equals(between.toString()) ? 1 : 0, 0);
        Sentences.due("back()", x.back(), 7);
        StringBuilder then = new StringBuilder();
        tell(x, then);
        Sentences.due("all is as it was", was.toString().equals(then.toString()) ? 1 : 0, 1);
    }

    private static void tell(NamesOnLoan x, StringBuilder out) {
        for (int name = 0; name < 3; name++) {
            out.append(x.of(name, 10)).append(' ').append(x.of(name, 11)).append(' ');
            for (int b = 0; b < 3; b++) {
                out.append(x.owe(10 * name + b, 0)).append(' ');
            }
        }
        for (int what = 0; what < 4; what++) {
            out.append(x.led(what)).append(' ');
        }
    }

    private static void p31WhatItDoesNotKeep() {
        Sentences.of(31, "AN IMAGE keeps WEARERS, LEFT, debts, what LED tells");
        NamesOnLoan x = Lands.land(3, 5);
        x.image();
        x.mend(0, 0, 4);
        x.mend(0, 4, 9);
        Lands.law(x, "7");
        Lands.feed(x, "1+");
        x.body(5);
        x.act(0, 0, 3);
        Lands.bytes(x, 2, 8);
        x.undo();
        x.back();
        Sentences.due("SYLLABLES", x.of(0, 0), 4);
        Sentences.due("COLD", x.of(0, 4), 2);
        Sentences.due("changes", x.count(3), 1);
        Sentences.due("THE LAW", x.burns(0), 7);
        Sentences.due("THE TAPE", x.count(2), 2);
        Sentences.due("BODIES", x.count(4), 1);
        Sentences.due("THE TRACE", x.trace(0), 1);
        Sentences.due("SHELVES", x.element(2, 0), 8);
        Sentences.due("what may be DONE AGAIN", x.redo(), 0);
    }

    private static void p31PeopleThatCameSince() {
        Sentences.of(31, "(PEOPLE that came since: NAMES worn by themselves, LEFT 100, no debts): DAYS");
        for (int there = 0; there < 8; there++) {
            NamesOnLoan x = Lands.alike(there);
            x.pass(5);
            x.image();
            for (int k = there; k < 8; k++) {
                x.person(2, 0);
            }
            x.mend(7, 2, 9);
            x.pass(1);
            for (int k = 0; k < 7; k++) {
                x.lend(k, 7);
                x.owe(70 + k, 9);
                x.owe(10 * k + 7, 9);
            }
            x.lend(7, 0);
            x.pass(3);
            Sentences.due("back() to " + there, x.back(), 5);
            Sentences.due("all stay", x.count(0), 8);
            for (int k = 0; k < 8; k++) {
                Sentences.due("WEARER of " + k, x.of(k, 10), k);
                Sentences.due("LEFT of " + k, x.of(k, 11), k < there ? 90 : 100);
                Sentences.due("debt of " + k, x.debt(k), 0);
            }
            Sentences.due("what sleeps", x.debt(-1), 0);
            Sentences.due("COATS stay", x.of(7, 2), 9);
        }
    }

    private static void p31AgainAndAgain() {
        Sentences.of(31, "It is laid back");
        NamesOnLoan x = Lands.alike(2);
        x.image();
        for (int k = 0; k < 3; k++) {
            x.pass(9);
            x.lend(0, 1);
            Sentences.due("back()", x.back(), 0);
            Sentences.due("LEFT", x.of(0, 11), 100);
            Sentences.due("WEARER", x.of(0, 10), 0);
        }
        x.pass(4);
        Sentences.due("a later image()", x.image(), 4);
        x.pass(1);
        Sentences.due("back()", x.back(), 4);
        x.owe(1, 5);
        Sentences.due("the image is a copy", x.back(), 4);
        Sentences.due("the image is a copy: debts", x.debt(0), 0);
    }

    private static void p32None() {
        Sentences.of(32, "UNDONE: how many may still be. STATE: none.");
        Sentences.refused(Lands::empty, "undo()", NamesOnLoan::undo, STATE);
        Sentences.refused(() -> Lands.land(3, 5), "undo()", NamesOnLoan::undo, STATE);
        NamesOnLoan x = Lands.land(3, 5);
        x.mend(0, 0, 4);
        Sentences.due("the one", x.undo(), 0);
        Sentences.due("none", x.undo(), STATE);
        Sentences.due("SYLLABLES", x.of(0, 0), 3);
        Sentences.due("it may be DONE AGAIN still", x.redo(), 0);
    }

    private static void p32SameNumber() {
        Sentences.of(32, "telling the same number is none");
        NamesOnLoan x = Lands.land(3, 5);
        int[] same = {3, 5, 4, 0, 2, 0};
        for (int what = 0; what < 6; what++) {
            Sentences.due("mend(0, " + what + ", as it is)", x.mend(0, what, same[what]), same[what]);
        }
        Sentences.due("count(3)", x.count(3), 0);
        Sentences.due("undo()", x.undo(), STATE);
        for (int what = 0; what < 6; what++) {
            int w = what;
            Sentences.leaves(Lands::some, "mend(0, " + what + ", as it is)", y -> y.mend(0, w, y.of(0, w)));
        }
    }

    private static void p32LatestFirst() {
        Sentences.of(32, "CHANGES (all numbers of mend()");
        Sentences.of(32, "can be UNDONE, the latest first");
        NamesOnLoan x = Lands.land(3, 5, 6, 7);
        int[] was = {6, 7, 4, 0, 2, 0};
        for (int what = 0; what < 6; what++) {
            x.mend(what < 4 ? 1 : 0, what, 1);
        }
        for (int what = 5; what >= 0; what--) {
            Sentences.due("before undo", x.of(what < 4 ? 1 : 0, what), 1);
            Sentences.due("undo()", x.undo(), what);
            Sentences.due("of(.., " + what + ")", x.of(what < 4 ? 1 : 0, what), was[what]);
            Sentences.due("count(3)", x.count(3), what);
        }
        for (int what = 0; what < 6; what++) {
            Sentences.due("redo()", x.redo(), 5 - what);
            Sentences.due("of(.., " + what + ") again", x.of(what < 4 ? 1 : 0, what), 1);
            Sentences.due("count(3)", x.count(3), what + 1);
        }
    }

    private static NamesOnLoan changed(int times) {
        NamesOnLoan x = Lands.land(3, 0);
        for (int k = 1; k <= times; k++) {
            x.mend(0, 1, k % 10);
        }
        return x;
    }

    private static void p32FortyAtMost() {
        Sentences.of(32, "40 at most are kept");
        for (int times : new int[] {38, 39, 40, 41, 42, 43, 79, 80, 81, 130}) {
            NamesOnLoan x = changed(times);
            int kept = Math.min(times, 40);
            Sentences.due(times + " changes: count(3)", x.count(3), kept);
            for (int k = kept - 1; k >= 0; k--) {
                Sentences.due(times + " changes: undo()", x.undo(), k);
                Sentences.due(times + " changes: OUT", x.of(0, 1), (times - kept + k) % 10);
            }
            Sentences.due(times + " changes: none", x.undo(), STATE);
            Sentences.due(times + " changes: OUT at last", x.of(0, 1), (times - kept) % 10);
        }
    }

    private static void p32FortyOfAll() {
        Sentences.of(32, "CHANGES (all numbers of mend()");
        Sentences.of(32, "40 at most are kept");
        NamesOnLoan x = Lands.alike(8);
        int[] kept = new int[34];
        for (int k = 0; k < 68; k++) {
            if (k == 28) {
                tellNumbers(x, kept);
            }
            int what = k % 6;
            int number = what < 4 ? k / 6 % 8 : 0;
            int was = x.of(number, what);
            int v = what == 3 ? 1 - was : was % 9 + 1;
            Sentences.due("mend no " + k, x.mend(number, what, v), was);
        }
        Sentences.due("count(3)", x.count(3), 40);
        int[] last = new int[34];
        tellNumbers(x, last);
        for (int k = 39; k >= 0; k--) {
            Sentences.due("undo()", x.undo(), k);
        }
        likeNumbers("ahead of the latest 40", x, kept);
        for (int k = 39; k >= 0; k--) {
            Sentences.due("redo()", x.redo(), k);
        }
        likeNumbers("behind them", x, last);
    }

    private static void tellNumbers(NamesOnLoan x, int[] into) {
        for (int k = 0; k < 32; k++) {
            into[k] = x.of(k / 4, k % 4);
        }
        into[32] = x.of(0, 4);
        into[33] = x.of(0, 5);
    }

    private static void likeNumbers(String when, NamesOnLoan x, int[] want) {
        int[] got = new int[34];
        tellNumbers(x, got);
        for (int k = 0; k < 34; k++) {
            Sentences.due("number " + k + " " + when, got[k], want[k]);
        }
    }

    private static void p32DeedsAreNone() {
        Sentences.of(32, "40 at most are kept; deeds are none");
        NamesOnLoan x = Lands.alike(3);
        x.mend(0, 0, 5);
        x.lend(0, 1);
        x.pass(3);
        x.owe(12, 3);
        x.image();
        x.thaw();
        x.back();
        x.person(1, 1);
        x.body(0);
        Lands.law(x, "1");
        Lands.bytes(x, 0, 1, 1, 1);
        x.people(0, 0, 1);
        Sentences.due("count(3)", x.count(3), 1);
        Sentences.due("undo()", x.undo(), 0);
        Sentences.due("SYLLABLES", x.of(0, 0), 1);
        Sentences.due("WEARER", x.of(0, 10), 1);
        Sentences.due("PEOPLE", x.count(0), 5);
        Sentences.due("none", x.undo(), STATE);
    }

    private static void p33None() {
        Sentences.of(33, "DONE AGAIN: how many may still be. STATE: none.");
        Sentences.refused(Lands::empty, "redo()", NamesOnLoan::redo, STATE);
        Sentences.refused(() -> changed(3), "redo()", NamesOnLoan::redo, STATE);
        Sentences.refused(Lands::full, "redo()", NamesOnLoan::redo, STATE);
        NamesOnLoan x = changed(2);
        x.undo();
        x.undo();
        Sentences.due("the first", x.redo(), 1);
        Sentences.due("the second", x.redo(), 0);
        Sentences.due("none", x.redo(), STATE);
        Sentences.due("OUT", x.of(0, 1), 2);
    }

    private static void p33NoOtherBehind() {
        Sentences.of(33, "and DONE AGAIN (as long as no other came behind)");
        NamesOnLoan x = changed(4);
        x.undo();
        x.undo();
        Sentences.due("another", x.mend(0, 0, 8), 3);
        Sentences.refused(() -> another(), "redo()", NamesOnLoan::redo, STATE);
        Sentences.due("count(3)", x.count(3), 3);
        Sentences.due("undo()", x.undo(), 2);
        Sentences.due("SYLLABLES", x.of(0, 0), 3);
        Sentences.due("redo()", x.redo(), 0);
        Sentences.due("SYLLABLES again", x.of(0, 0), 8);
        Sentences.due("OUT", x.of(0, 1), 2);
        NamesOnLoan y = changed(2);
        y.undo();
        Sentences.due("the same again, told anew", y.mend(0, 1, 2), 1);
        Sentences.due("it came behind, too", y.redo(), STATE);
        Sentences.due("count(3)", y.count(3), 2);
    }

    private static NamesOnLoan another() {
        NamesOnLoan x = changed(4);
        x.undo();
        x.undo();
        x.mend(0, 0, 8);
        return x;
    }

    private static void p33WhatKeepsThem() {
        Sentences.of(33, "telling the same number is none");
        NamesOnLoan x = changed(2);
        x.undo();
        x.mend(0, 1, 1);
        x.mend(0, 1, 10);
        x.mend(1, 1, 3);
        x.pass(1);
        x.lend(0, 0);
        x.person(1, 1);
        x.lend(0, 1);
        x.thaw();
        x.image();
        x.back();
        Lands.law(x, "1");
        Sentences.due("redo()", x.redo(), 0);
        Sentences.due("OUT", x.of(0, 1), 2);
    }

    private static void p33Forty() {
        Sentences.of(33, "40 at most are kept");
        NamesOnLoan x = changed(45);
        for (int k = 0; k < 40; k++) {
            x.undo();
        }
        Sentences.due("none more", x.undo(), STATE);
        for (int k = 39; k >= 0; k--) {
            Sentences.due("redo()", x.redo(), k);
            Sentences.due("OUT", x.of(0, 1), (45 - k) % 10);
        }
        Sentences.due("none more", x.redo(), STATE);
        NamesOnLoan y = changed(40);
        for (int k = 0; k < 10; k++) {
            y.undo();
        }
        y.mend(0, 0, 9);
        Sentences.due("30 and another", y.count(3), 31);
        for (int k = 1; k <= 9; k++) {
            y.mend(0, 0, k % 2 + 1);
        }
        Sentences.due("40 again", y.count(3), 40);
        y.mend(0, 0, 7);
        Sentences.due("40 still", y.count(3), 40);
        for (int k = 0; k < 40; k++) {
            y.undo();
        }
        Sentences.due("OUT behind the oldest, which is not kept", y.of(0, 1), 1);
        Sentences.due("SYLLABLES", y.of(0, 0), 3);
    }
}
