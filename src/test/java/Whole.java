/**
 * All that calls tell of an object, in parts: each part is read from an object of its own, by at most
 * some 230 calls, since some of them change it and since answers behind the 512th call are free.
 */
final class Whole {
    static final int PARTS = 8;
    static final int IMAGE = 6;

    private Whole() {
    }

    static String part(NamesOnLoan x, int part) {
        StringBuilder out = new StringBuilder();
        switch (part) {
            case 0:
                people(x, out);
                break;
            case 1:
                thoughts(x, out);
                break;
            case 2:
                shelves(x, out, 0);
                break;
            case 3:
                shelves(x, out, 3);
                break;
            case 4:
                tape(x, out);
                break;
            case 5:
                changes(x, out);
                break;
            case IMAGE:
                out.append(x.back()).append(": ");
                people(x, out);
                break;
            default:
                acts(x, out);
                break;
        }
        return out.toString();
    }

    private static void tell(StringBuilder out, long answer) {
        out.append(answer).append(' ');
    }

    private static void numbers(NamesOnLoan x, StringBuilder out) {
        int people = x.count(0);
        for (int one = 0; one < people; one++) {
            for (int what = 0; what < 4; what++) {
                tell(out, x.of(one, what));
            }
        }
        tell(out, x.of(0, 4));
        tell(out, x.of(0, 5));
        out.append("| ");
    }

    private static void people(NamesOnLoan x, StringBuilder out) {
        numbers(x, out);
        int people = x.count(0);
        for (int one = 0; one < people; one++) {
            for (int what = 10; what < 14; what++) {
                tell(out, x.of(one, what));
            }
            tell(out, x.burns(one));
            tell(out, x.ring(one, 0));
            for (int b = 0; b < people; b++) {
                tell(out, x.owe(10 * one + b, 0));
            }
        }
        out.append("| ");
        for (int name = -1; name < people; name++) {
            tell(out, x.thaws(name));
            tell(out, x.debt(name));
        }
        for (int what = 0; what < 6; what++) {
            tell(out, x.led(what));
            tell(out, x.count(what));
        }
    }

    private static void thoughts(NamesOnLoan x, StringBuilder out) {
        int people = x.count(0);
        for (int name = 0; name < people; name++) {
            tell(out, x.left(name, 9));
            tell(out, x.when(name, 1));
            tell(out, x.give(name, 9, 0));
            tell(out, x.letter(name, 2, 0));
            tell(out, x.allLast(9, name));
        }
        tell(out, x.winter(9, 2));
        tell(out, x.last());
        tell(out, x.crowd(1));
        tell(out, x.fewest(9));
        tell(out, x.doors(9));
        tell(out, x.drawn(5, 310, -1));
        for (int shelf = 0; shelf < 6; shelf++) {
            tell(out, x.judge(shelf));
            tell(out, x.wore(shelf, -1));
        }
        // THE LAW shows itself by what it gives under every COLD
        for (int cold = 0; cold < 10; cold++) {
            x.mend(0, 4, cold);
            for (int name = 0; name < people; name++) {
                tell(out, x.burns(name));
            }
        }
    }

    private static void shelves(NamesOnLoan x, StringBuilder out, int from) {
        for (int shelf = from; shelf < from + 3; shelf++) {
            for (int kind = 0; kind < 8; kind++) {
                tell(out, x.taken(shelf, kind));
            }
            for (int i = 0; i < 60; i++) {
                tell(out, x.element(shelf, i));
            }
            // the sort of a row shows itself by what it keeps
            tell(out, x.put(shelf, 0, 0x1234567890ABCDEFL));
            tell(out, x.element(shelf, 0));
            out.append("| ");
        }
    }

    private static void tape(NamesOnLoan x, StringBuilder out) {
        tell(out, x.count(2));
        tell(out, x.law());
        int people = x.count(0);
        for (int cold = 0; cold < 10; cold++) {
            x.mend(0, 4, cold);
            for (int name = 0; name < people; name++) {
                tell(out, x.burns(name));
            }
        }
    }

    private static void changes(NamesOnLoan x, StringBuilder out) {
        tell(out, x.count(3));
        int answer = 0;
        for (int k = 0; k < 41 && answer >= 0; k++) {
            answer = x.redo();
            tell(out, answer);
        }
        numbers(x, out);
        answer = 0;
        for (int k = 0; k < 41 && answer >= 0; k++) {
            answer = x.undo();
            tell(out, answer);
        }
        numbers(x, out);
        for (int k = 0; k < 20; k++) {
            tell(out, x.redo());
        }
        numbers(x, out);
    }

    private static void acts(NamesOnLoan x, StringBuilder out) {
        tell(out, x.count(5));
        for (int i = 0; i < 25; i++) {
            tell(out, x.trace(i));
        }
        int bodies = x.count(4);
        tell(out, bodies);
        for (int body = 0; body < bodies; body++) {
            tell(out, x.act(body, 3, 5));
            tell(out, x.act(body, 2, 5));
            tell(out, x.count(5));
        }
    }
}
