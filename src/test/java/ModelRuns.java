import java.util.ArrayDeque;
import java.util.ArrayList;
import java.util.Arrays;
import java.util.Deque;
import java.util.List;
import java.util.Random;
import java.util.TreeSet;

/**
 * Long drawn runs of calls, each answer compared with a model that is written from the document
 * another way: days one by one, thaws minute by minute, acts by Java's own classes, rows by Java's
 * own arrays and what the machine throws there, faults by a machine of states instead of a descent.
 */
public final class ModelRuns {
    private static final int PROMISED_CALLS = 512;
    private static final int MOST_CALLS_AT_ONCE = 121;
    private static int wrong = 0;

    public static void main(String[] args) {
        int runs = 2000;
        for (int run = 0; run < runs && wrong < 20; run++) {
            oneRun(run);
        }
        lawTexts();
        System.out.println(wrong == 0 ? runs + " drawn runs are as the model's" : wrong + " answers are not as the model's");
        if (wrong != 0) {
            System.exit(1);
        }
    }

    // ---- runs

    private static final class Call {
        String text;
        long got;
        long want;
        // of the object, since some are told as one here
        int many = 1;

        Call(String text, long got, long want) {
            this.text = text;
            this.got = got;
            this.want = want;
        }

        Call of(int calls) {
            many = calls;
            return this;
        }
    }

    private static void oneRun(int run) {
        Random draw = new Random(run * 7919L + 13);
        NamesOnLoan x = new NamesOnLoan();
        Model m = new Model();
        List<Call> calls = new ArrayList<>();
        int aim = draw.nextInt(9);
        for (int k = 0; k < aim; k++) {
            int s = 1 + draw.nextInt(9);
            int o = draw.nextInt(10);
            calls.add(new Call("person(" + s + ", " + o + ")", x.person(s, o), m.person(s, o)));
        }
        int most = PROMISED_CALLS - MOST_CALLS_AT_ONCE;
        for (int k = calls.size(); k < most; k += calls.get(calls.size() - 1).many) {
            Call call = aCall(draw, x, m);
            calls.add(call);
            if (call.got != call.want) {
                wrong++;
                System.out.println("run " + run + ", call " + k + ": " + call.text + " answered " + call.got + ", due is " + call.want);
                for (int i = Math.max(0, calls.size() - 12); i < calls.size(); i++) {
                    System.out.println("    " + calls.get(i).text + " = " + calls.get(i).got);
                }
                return;
            }
        }
    }

    private static int near(Random draw, int low, int high) {
        int far = draw.nextInt(40);
        if (far == 0) {
            return low - 1;
        }
        if (far == 1) {
            return high + 1;
        }
        if (far == 2 && draw.nextInt(6) == 0) {
            return draw.nextBoolean() ? Integer.MIN_VALUE : Integer.MAX_VALUE;
        }
        return low + draw.nextInt(high - low + 1);
    }

    private static int someone(Random draw, Model m) {
        return near(draw, 0, Math.max(0, m.size() - 1));
    }

    private static int someDays(Random draw) {
        return draw.nextInt(3) == 0 ? near(draw, 0, 99) : near(draw, 0, 20);
    }

    private static Call aCall(Random d, NamesOnLoan x, Model m) {
        int which = d.nextInt(54);
        if (which < 8) {
            return callOfPeople(which, d, x, m);
        }
        if (which < 15) {
            return callOfThought(which, d, x, m);
        }
        if (which < 25) {
            return callOfThaw(which, d, x, m);
        }
        if (which < 33) {
            return callOfDeed(which, d, x, m);
        }
        if (which < 43) {
            return callOfShelves(which, d, x, m);
        }
        return callMore(which, d, x, m);
    }

    private static Call callOfPeople(int which, Random d, NamesOnLoan x, Model m) {
        int a = someone(d, m);
        switch (which) {
            case 0: {
                int s = near(d, 1, 9);
                int o = near(d, 0, 9);
                return d.nextInt(6) != 0 ? new Call("count(0)", x.count(0), m.size())
                    : new Call("person(" + s + ", " + o + ")", x.person(s, o), m.person(s, o));
            }
            case 1: {
                int shelf = near(d, 0, 5);
                int i = d.nextInt(4) == 0 ? near(d, 0, 62) : 0;
                int n = near(d, 1, 8);
                return new Call("people(" + shelf + ", " + i + ", " + n + ")", x.people(shelf, i, n), m.people(shelf, i, n));
            }
            case 2:
            case 3: {
                int what = near(d, 0, 5);
                int number = what >= 4 && d.nextInt(8) != 0 ? 0 : a;
                int v = near(d, 0, 9);
                return new Call("mend(" + number + ", " + what + ", " + v + ")", x.mend(number, what, v), m.mend(number, what, v));
            }
            case 4: {
                int what = d.nextBoolean() ? near(d, 0, 5) : near(d, 9, 14);
                return new Call("of(" + a + ", " + what + ")", x.of(a, what), m.of(a, what));
            }
            case 5: {
                String letters = "sonscfg0123456789|&<=>+-*/%!(?;)x";
                int letter = d.nextInt(30) == 0 ? near(d, 0, 255) : letters.charAt(d.nextInt(letters.length()));
                return new Call("feed(" + letter + ")", x.feed(letter), m.feed(letter));
            }
            case 6: {
                if (d.nextInt(3) == 0 && m.tape.size() == 0) {
                    String text = LawTexts.drawn(d);
                    long got = 0;
                    long want = 0;
                    for (int k = 0; k < text.length(); k++) {
                        got = got * 31 + x.feed(text.charAt(k));
                        want = want * 31 + m.feed(text.charAt(k));
                    }
                    return new Call("feed all of " + text, got * 31 + x.law(), want * 31 + m.law()).of(text.length() + 1);
                }
                return new Call("law()", x.law(), m.law());
            }
            default:
                return new Call("burns(" + a + ")", x.burns(a), m.burns(a));
        }
    }

    private static Call callOfThought(int which, Random d, NamesOnLoan x, Model m) {
        int a = someone(d, m);
        int n = someDays(d);
        switch (which) {
            case 8:
                return new Call("left(" + a + ", " + n + ")", x.left(a, n), m.left(a, n));
            case 9: {
                int what = near(d, 0, 2);
                return new Call("winter(" + n + ", " + what + ")", x.winter(n, what), m.winter(n, what));
            }
            case 10: {
                int what = near(d, 0, 1);
                return new Call("when(" + a + ", " + what + ")", x.when(a, what), m.when(a, what));
            }
            case 11:
                return new Call("last()", x.last(), m.last());
            case 12: {
                int what = near(d, 0, 1);
                return new Call("give(" + a + ", " + n + ", " + what + ")", x.give(a, n, what), m.give(a, n, what));
            }
            case 13: {
                int what = near(d, -2, Math.max(0, m.size() - 1));
                return new Call("allLast(" + n + ", " + what + ")", x.allLast(n, what), m.allLast(n, what));
            }
            default:
                return new Call("fewest(" + n + ")", x.fewest(n), m.fewest(n));
        }
    }

    private static Call callOfThaw(int which, Random d, NamesOnLoan x, Model m) {
        int a = someone(d, m);
        int n = someDays(d);
        int two = near(d, 0, 1);
        switch (which) {
            case 15: {
                int name = d.nextBoolean() ? -1 : a;
                return new Call("thaws(" + name + ")", x.thaws(name), m.thaws(name));
            }
            case 16:
                return new Call("ring(" + a + ", " + two + ")", x.ring(a, two), m.ring(a, two));
            case 17:
                return new Call("crowd(" + two + ")", x.crowd(two), m.crowd(two));
            case 18:
                return new Call("letter(" + a + ", " + n + ", " + two + ")", x.letter(a, n, two), m.letter(a, n, two));
            case 19: {
                int ab = d.nextInt(9) == 0 ? near(d, -1, 100) : d.nextInt(8) * 10 + d.nextInt(8);
                int v = near(d, -99, 99);
                return new Call("owe(" + ab + ", " + v + ")", x.owe(ab, v), m.owe(ab, v));
            }
            case 20: {
                int name = d.nextBoolean() ? -1 : a;
                return new Call("debt(" + name + ")", x.debt(name), m.debt(name));
            }
            case 21:
                return new Call("doors(" + n + ")", x.doors(n), m.doors(n));
            case 22: {
                int shelf = near(d, 0, 5);
                return new Call("judge(" + shelf + ")", x.judge(shelf), m.judge(shelf));
            }
            case 23: {
                int shelf = near(d, 0, 5);
                int name = d.nextBoolean() ? -1 : a;
                return new Call("wore(" + shelf + ", " + name + ")", x.wore(shelf, name), m.wore(shelf, name));
            }
            default: {
                int seed = d.nextInt();
                int nm = d.nextInt(8) == 0 ? near(d, -1, 2300) : (1 + d.nextInt(20)) * 100 + 1 + d.nextInt(99);
                int name = d.nextBoolean() ? -1 : a;
                return new Call("drawn(" + seed + ", " + nm + ", " + name + ")", x.drawn(seed, nm, name), m.drawn(seed, nm, name));
            }
        }
    }

    private static Call callOfDeed(int which, Random d, NamesOnLoan x, Model m) {
        int a = someone(d, m);
        int b = someone(d, m);
        switch (which) {
            case 25:
                return new Call("lend(" + a + ", " + b + ")", x.lend(a, b), m.lend(a, b));
            case 26: {
                int n = d.nextInt(6) == 0 ? near(d, 1, 99) : near(d, 1, 2);
                return new Call("pass(" + n + ")", x.pass(n), m.pass(n));
            }
            case 27:
                return d.nextInt(5) == 0 ? new Call("thaw()", x.thaw(), m.thaw())
                    : new Call("lend(" + b + ", " + a + ")", x.lend(b, a), m.lend(b, a));
            case 28: {
                int what = near(d, 0, 3);
                return new Call("led(" + what + ")", x.led(what), m.led(what));
            }
            case 29:
                return d.nextInt(3) == 0 ? new Call("image()", x.image(), m.image())
                    : new Call("lend(" + b + ", " + a + ")", x.lend(b, a), m.lend(b, a));
            case 30:
                return new Call("back()", x.back(), m.back());
            case 31:
                return new Call("undo()", x.undo(), m.undo());
            default:
                return new Call("redo()", x.redo(), m.redo());
        }
    }

    private static Call callOfShelves(int which, Random d, NamesOnLoan x, Model m) {
        int shelf = near(d, 0, 5);
        int other = near(d, 0, 5);
        switch (which) {
            case 33: {
                int kind = near(d, 0, 7);
                return new Call("body(" + kind + ")", x.body(kind), m.body(kind));
            }
            case 34: {
                int body = near(d, 0, Math.max(0, m.bodies.size() - 1));
                int act = near(d, 0, 3);
                int v = d.nextBoolean() ? d.nextInt(20) : d.nextInt();
                return new Call("act(" + body + ", " + act + ", " + v + ")", x.act(body, act, v), m.act(body, act, v));
            }
            case 35: {
                int i = near(d, 0, 14);
                return new Call("trace(" + i + ")", x.trace(i), m.trace(i));
            }
            case 36: {
                int body = near(d, -1, Math.max(0, m.bodies.size() - 1));
                return d.nextBoolean() ? new Call("count(4)", x.count(4), m.bodies.size())
                    : new Call("keep(" + shelf + ", " + body + ")", x.keep(shelf, body), m.keep(shelf, body));
            }
            case 37: {
                int sort = d.nextBoolean() ? 0 : near(d, 0, 4);
                int n = near(d, 0, 60);
                return d.nextBoolean() ? new Call("count(5)", x.count(5), m.traced.size())
                    : new Call("row(" + shelf + ", " + sort + ", " + n + ")", x.row(shelf, sort, n), m.row(shelf, sort, n));
            }
            case 38: {
                int i = near(d, 0, 60);
                long v = d.nextBoolean() ? d.nextInt(10) : d.nextLong();
                return new Call("put(" + shelf + ", " + i + ", " + v + ")", x.put(shelf, i, v), m.put(shelf, i, v));
            }
            case 39: {
                int i = near(d, 0, 60);
                return new Call("element(" + shelf + ", " + i + ")", x.element(shelf, i), m.element(shelf, i));
            }
            case 40: {
                int i = near(d, 0, 30);
                int j = near(d, 0, 30);
                int n = near(d, 0, 30);
                return new Call("shift(" + shelf + ", " + i + ", " + other + ", " + j + ", " + n + ")",
                    x.shift(shelf, i, other, j, n), m.shift(shelf, i, other, j, n));
            }
            case 41: {
                int k = near(d, 0, 7);
                return new Call("taken(" + shelf + ", " + k + ")", x.taken(shelf, k), m.taken(shelf, k));
            }
            default: {
                int what = near(d, 0, 5);
                return new Call("count(" + what + ")", x.count(what), m.count(what));
            }
        }
    }

    /** Threes that are likely to be so, or to be people, laid on a shelf by many calls at once. */
    private static Call callMore(int which, Random d, NamesOnLoan x, Model m) {
        int shelf = d.nextInt(6);
        if (which < 48) {
            int n = d.nextInt(7);
            int extra = d.nextInt(8) == 0 ? 1 + d.nextInt(2) : 0;
            long got = x.row(shelf, 0, n * 3 + extra);
            long want = m.row(shelf, 0, n * 3 + extra);
            StringBuilder told = new StringBuilder("signed on " + shelf + ":");
            for (int k = 0; k < n * 3; k += 3) {
                int name = m.size() == 0 ? 0 : d.nextInt(m.size());
                boolean asItIs = d.nextInt(3) != 0 && m.size() > 0;
                int[] three = {d.nextInt(12), name, asItIs ? m.wearer[name] : d.nextInt(6)};
                if (d.nextInt(20) == 0) {
                    three[d.nextInt(3)] = d.nextInt(256) - 128;
                }
                for (int q = 0; q < 3; q++) {
                    got = got * 31 + x.put(shelf, k + q, three[q]);
                    want = want * 31 + m.put(shelf, k + q, three[q]);
                }
                told.append(" ").append(Arrays.toString(three));
            }
            int name = d.nextBoolean() ? -1 : someone(d, m);
            told.append(" judged, wore(").append(name).append(")");
            got = got * 1000 + x.judge(shelf);
            want = want * 1000 + m.judge(shelf);
            return new Call(told.toString(), got * 10000 + x.wore(shelf, name), want * 10000 + m.wore(shelf, name)).of(n * 3 + 3);
        }
        if (which < 50) {
            long got = x.row(shelf, 0, 9);
            long want = m.row(shelf, 0, 9);
            StringBuilder told = new StringBuilder("people on " + shelf + ":");
            for (int k = 0; k < 9; k++) {
                int v = near(d, k % 3 == 1 ? 0 : 1, 9);
                got = got * 31 + x.put(shelf, k, v);
                want = want * 31 + m.put(shelf, k, v);
                told.append(" ").append(v);
            }
            return new Call(told.toString(), got, want).of(10);
        }
        int a = someone(d, m);
        int b = someone(d, m);
        return new Call("lend(" + a + ", " + b + ")", x.lend(a, b), m.lend(a, b));
    }

    // ---- law texts alone, since a drawn run reads few of them

    private static void lawTexts() {
        Random draw = new Random(77);
        for (int k = 0; k < 60000 && wrong < 20; k++) {
            String text = LawTexts.drawn(draw);
            NamesOnLoan x = new NamesOnLoan();
            Model m = new Model();
            x.person(7, 3);
            m.person(7, 3);
            x.mend(0, 4, k % 10);
            m.mend(0, 4, k % 10);
            x.mend(0, 3, k % 2);
            m.mend(0, 3, k % 2);
            x.mend(0, 5, k / 2 % 10);
            m.mend(0, 5, k / 2 % 10);
            for (int i = 0; i < text.length(); i++) {
                x.feed(text.charAt(i));
                m.feed(text.charAt(i));
            }
            int got = x.law();
            int want = m.law();
            if (got != want || x.burns(0) != m.burns(0) || x.count(2) != 0) {
                wrong++;
                System.out.println("law " + text + " answered " + got + ", due is " + want + "; burns " + x.burns(0) + ", due is " + m.burns(0));
            }
        }
    }

    private static final class LawTexts {
        static String drawn(Random d) {
            StringBuilder out = new StringBuilder();
            int lines = 1 + d.nextInt(3);
            for (int k = 0; k < lines; k++) {
                if (k > 0) {
                    out.append(';');
                }
                either(d, out, 4);
                if (d.nextInt(2) == 0) {
                    out.append('?');
                    either(d, out, 4);
                }
            }
            if (d.nextInt(3) == 0 && out.length() > 0) {
                String signs = "sonscfg0123456789|&<=>+-*/%!(?;) x";
                int at = d.nextInt(out.length());
                char sign = signs.charAt(d.nextInt(signs.length()));
                int how = d.nextInt(3);
                if (how == 0) {
                    out.setCharAt(at, sign);
                } else if (how == 1) {
                    out.insert(at, sign);
                } else {
                    out.setLength(at);
                }
            }
            return out.length() > 120 ? out.substring(0, 120) : out.toString();
        }

        private static void either(Random d, StringBuilder out, int depth) {
            int parts = 1 + (d.nextInt(3) == 0 ? d.nextInt(3) : 0);
            String signs = "|&<=>+-*/%+-*+-*";
            for (int k = 0; k < parts; k++) {
                if (k > 0) {
                    out.append(signs.charAt(d.nextInt(signs.length())));
                }
                one(d, out, depth);
            }
        }

        private static void one(Random d, StringBuilder out, int depth) {
            int kind = d.nextInt(depth > 0 ? 9 : 6);
            if (kind < 3) {
                out.append("soncfg".charAt(d.nextInt(6)));
            } else if (kind < 6) {
                int most = d.nextInt(8) == 0 ? 10000 : 10;
                out.append(d.nextInt(most));
            } else if (kind == 6) {
                out.append(d.nextBoolean() ? '!' : '-');
                one(d, out, depth - (d.nextInt(3) == 0 ? 1 : 0));
            } else {
                out.append('(');
                either(d, out, depth - 1);
                out.append(')');
            }
        }
    }

    // ---- acts by Java's own classes

    private interface Wears {
        int n();

        List<Integer> log();

        default int wears(int x) {
            log().add(1);
            return x + n();
        }
    }

    private interface Tells {
        List<Integer> log();

        int freezes(int x);

        int calls(int x);

        default int tells(int x) {
            log().add(2);
            return freezes(x) - calls(1);
        }
    }

    private static class Name implements Wears, Tells {
        int number;
        List<Integer> log;

        public int n() {
            return number;
        }

        public List<Integer> log() {
            return log;
        }

        public int freezes(int x) {
            log.add(10);
            return wears(x) * 2;
        }

        public int calls(int x) {
            log.add(11);
            return x ^ number;
        }
    }

    private static class Coat extends Name {
        public int wears(int x) {
            log.add(20);
            return super.wears(x) + 3;
        }
    }

    private static class Lent extends Name {
        public int freezes(int x) {
            log.add(30);
            return -super.freezes(x);
        }
    }

    private static class Frozen extends Lent {
        public int calls(int x) {
            log.add(40);
            return super.calls(x) * 3;
        }

        public int freezes(int x) {
            log.add(41);
            return super.freezes(x + 1);
        }
    }

    private static class House extends Coat {
        public int calls(int x) {
            log.add(50);
            return super.calls(x) - wears(2);
        }
    }

    private static class Cracked extends Frozen {
        public int tells(int x) {
            log.add(60);
            return super.tells(x) ^ 5;
        }
    }

    private static class Letter extends Name {
        public int wears(int x) {
            log.add(70);
            return super.wears(x) * 2;
        }
    }

    private static class Nobody extends House {
        public int freezes(int x) {
            log.add(80);
            return super.freezes(x) + calls(2);
        }

        public int tells(int x) {
            log.add(81);
            return super.tells(x) - 1;
        }
    }

    private static final Class<?>[] KINDS = {Name.class, Coat.class, Lent.class, Frozen.class, House.class, Cracked.class, Letter.class, Nobody.class};

    private static Name made(int kind) {
        switch (kind) {
            case 0: return new Name();
            case 1: return new Coat();
            case 2: return new Lent();
            case 3: return new Frozen();
            case 4: return new House();
            case 5: return new Cracked();
            case 6: return new Letter();
            default: return new Nobody();
        }
    }

    // ---- the law: faults by states, values by splitting at the weakest sign

    private static final class LawModel {
        /** -1: none. Each open thing is '(' or a sign ahead; b: whether the level's test was used. */
        static int fault(List<Integer> tape) {
            Deque<Character> open = new ArrayDeque<>();
            Deque<Boolean> tested = new ArrayDeque<>();
            tested.push(false);
            boolean wantsOne = true;
            boolean chosen = false;
            int digits = 0;
            for (int place = 0; place < tape.size(); place++) {
                int c = tape.get(place);
                boolean digit = c >= '0' && c <= '9';
                if (wantsOne) {
                    if (digit || c < 128 && "soncfg".indexOf(c) >= 0) {
                        digits = digit ? 1 : 4;
                        wantsOne = false;
                        closeSigns(open);
                    } else if ((c == '(' || c == '!' || c == '-') && open.size() < 6) {
                        open.push((char) c);
                        if (c == '(') {
                            tested.push(false);
                        }
                    } else {
                        return place;
                    }
                } else if (digit && digits < 4) {
                    digits++;
                } else if (c == ')' && open.contains('(')) {
                    digits = 4;
                    open.pop();
                    tested.pop();
                    closeSigns(open);
                } else if (c == '+' || c == '-' || c == '*' || c == '/' || c == '%') {
                    wantsOne = true;
                } else if (c == '|' || c == '&') {
                    tested.pop();
                    tested.push(false);
                    wantsOne = true;
                } else if ((c == '<' || c == '=' || c == '>') && !tested.peek()) {
                    tested.pop();
                    tested.push(true);
                    wantsOne = true;
                } else if (open.isEmpty() && (c == ';' || c == '?' && !chosen)) {
                    chosen = c == '?';
                    tested.pop();
                    tested.push(false);
                    wantsOne = true;
                } else {
                    return place;
                }
            }
            return wantsOne || !open.isEmpty() ? tape.size() : -1;
        }

        private static void closeSigns(Deque<Character> open) {
            while (!open.isEmpty() && open.peek() != '(') {
                open.pop();
            }
        }

        static int value(String text, int[] six) {
            for (String line : text.split(";")) {
                int q = line.indexOf('?');
                if (q < 0) {
                    return worth(line, six);
                }
                if (worth(line.substring(0, q), six) != 0) {
                    return worth(line.substring(q + 1), six);
                }
            }
            return 0;
        }

        private static int worth(String t, int[] six) {
            for (String signs : new String[] {"|", "&", "<=>", "+-", "*/%"}) {
                int at = lastOf(t, signs);
                if (at >= 0) {
                    return join(t.charAt(at), worth(t.substring(0, at), six), worth(t.substring(at + 1), six));
                }
            }
            char c = t.charAt(0);
            if (c == '!') {
                return worth(t.substring(1), six) == 0 ? 1 : 0;
            }
            if (c == '-') {
                return -worth(t.substring(1), six);
            }
            if (c == '(') {
                return worth(t.substring(1, t.length() - 1), six);
            }
            int known = "soncfg".indexOf(c);
            return known >= 0 ? six[known] : Integer.parseInt(t);
        }

        /** The last sign of these outside all brackets that joins two parts. */
        private static int lastOf(String t, String signs) {
            int deep = 0;
            for (int k = t.length() - 1; k > 0; k--) {
                char c = t.charAt(k);
                deep += c == ')' ? 1 : c == '(' ? -1 : 0;
                char ahead = t.charAt(k - 1);
                boolean joins = ahead == ')' || Character.isLetterOrDigit(ahead);
                if (deep == 0 && joins && signs.indexOf(c) >= 0) {
                    return k;
                }
            }
            return -1;
        }

        private static int join(char sign, int a, int b) {
            switch (sign) {
                case '|': return a != 0 | b != 0 ? 1 : 0;
                case '&': return a != 0 & b != 0 ? 1 : 0;
                case '<': return a < b ? 1 : 0;
                case '=': return a == b ? 1 : 0;
                case '>': return a > b ? 1 : 0;
                case '+': return a + b;
                case '-': return a - b;
                case '*': return a * b;
                case '/': return b == 0 ? 0 : a / b;
                default: return b == 0 ? 0 : a % b;
            }
        }
    }

    // ---- the model

    private static final class Model {
        static final int BAD = -1, NOT = -2, FULL = -3, STATE = -5;
        final List<int[]> ones = new ArrayList<>();
        int cold = 2;
        int fire = 0;
        int[] wearer = new int[0];
        int[] left = new int[0];
        int[][] debts = new int[8][8];
        int days = 0;
        int lendings = 0;
        int thaws = 0;
        List<Object> image = null;
        final List<Integer> tape = new ArrayList<>();
        String law = null;
        final List<int[]> undone = new ArrayList<>();
        final List<int[]> changes = new ArrayList<>();
        final List<Name> bodies = new ArrayList<>();
        final List<Integer> traced = new ArrayList<>();
        final Object[] shelves = new Object[6];

        int size() {
            return ones.size();
        }

        boolean has(int one) {
            return one >= 0 && one < size();
        }

        static boolean in(int v, int low, int high) {
            return v >= low && v <= high;
        }

        int person(int s, int o) {
            if (!in(s, 1, 9) || !in(o, 0, 9)) {
                return BAD;
            }
            return size() == 8 ? FULL : come(s, o, 4);
        }

        int come(int s, int o, int coats) {
            ones.add(new int[] {s, o, coats, 0});
            wearer = Arrays.copyOf(wearer, size());
            left = Arrays.copyOf(left, size());
            wearer[size() - 1] = size() - 1;
            left[size() - 1] = 100;
            return size() - 1;
        }

        int people(int shelf, int i, int n) {
            if (!in(shelf, 0, 5) || !in(n, 1, 8)) {
                return BAD;
            }
            int came = 0;
            try {
                byte[] row = (byte[]) shelves[shelf];
                for (int k = 0; k < n; k++) {
                    int s = row[i + 3 * k];
                    int o = row[i + 3 * k + 1];
                    int c = row[i + 3 * k + 2];
                    if (!in(s, 1, 9) || !in(o, 0, 9) || !in(c, 1, 9) || size() == 8) {
                        break;
                    }
                    come(s, o, c);
                    came++;
                }
            } catch (ClassCastException e) {
                return -12;
            } catch (NullPointerException | IndexOutOfBoundsException e) {
                return came;
            }
            return came;
        }

        int mend(int number, int what, int v) {
            int low = what == 0 || what == 2 ? 1 : 0;
            int high = what == 3 ? 1 : 9;
            if (!in(what, 0, 5) || !in(v, low, high) || (what < 4 ? !has(number) : number != 0)) {
                return BAD;
            }
            int was = of(number, what);
            if (was != v) {
                set(number, what, v);
                changes.add(new int[] {number, what, was, v});
                if (changes.size() > 40) {
                    changes.remove(0);
                }
                undone.clear();
            }
            return was;
        }

        void set(int number, int what, int v) {
            if (what == 4) {
                cold = v;
            } else if (what == 5) {
                fire = v;
            } else {
                ones.get(number)[what] = v;
            }
        }

        int of(int number, int what) {
            if (what == 4 || what == 5) {
                return number != 0 ? BAD : what == 4 ? cold : fire;
            }
            if (!has(number)) {
                return BAD;
            }
            switch (what) {
                case 0: case 1: case 2: case 3: return ones.get(number)[what];
                case 10: return wearer[number];
                case 11: return left[number];
                case 12: return left[number] < 10 * ones.get(number)[0] ? 1 : 0;
                case 13: return worn(wearer, number);
                default: return BAD;
            }
        }

        static int worn(int[] wearers, int one) {
            int many = 0;
            for (int wearer : wearers) {
                many += wearer == one ? 1 : 0;
            }
            return many;
        }

        int feed(int letter) {
            if (!in(letter, 0, 255)) {
                return BAD;
            }
            if (tape.size() == 120) {
                return FULL;
            }
            tape.add(letter);
            return tape.size();
        }

        int law() {
            int fault = LawModel.fault(tape);
            if (fault < 0) {
                StringBuilder text = new StringBuilder();
                for (int c : tape) {
                    text.append((char) c);
                }
                law = text.toString();
            }
            tape.clear();
            return fault < 0 ? 1 : -100 - fault;
        }

        int rate(int[] wearers, int name, int c) {
            int[] by = ones.get(wearers[name]);
            int s = ones.get(name)[0];
            int o = by[3] == 1 ? 0 : by[1];
            int n = worn(wearers, wearers[name]);
            int f = by[3] == 1 ? fire : 0;
            int g = wearers[name] != name ? 1 : 0;
            int v = law == null ? c * s - o * 2 - f + (n - 1) : LawModel.value(law, new int[] {s, o, n, c, f, g});
            return v < 0 ? 0 : v > 99 ? 99 : v;
        }

        int burns(int name) {
            return has(name) ? rate(wearer, name, cold) : BAD;
        }

        int[] after(int[] wearers, int[] from, int n) {
            int[] now = from.clone();
            int[] rates = new int[now.length];
            for (int name = 0; name < now.length; name++) {
                rates[name] = rate(wearers, name, cold);
            }
            for (int day = 0; day < n; day++) {
                for (int name = 0; name < now.length; name++) {
                    now[name] = Math.max(0, now[name] - rates[name]);
                }
            }
            return now;
        }

        int left(int name, int n) {
            return has(name) && in(n, 0, 99) ? after(wearer, left, n)[name] : BAD;
        }

        int cracked(int[] lefts) {
            int sum = 0;
            for (int name = 0; name < lefts.length; name++) {
                sum += lefts[name] < 10 * ones.get(name)[0] ? 1 : 0;
            }
            return sum;
        }

        static int burnt(int[] lefts) {
            int many = 0;
            for (int rest : lefts) {
                many += rest == 0 ? 1 : 0;
            }
            return many;
        }

        int winter(int n, int what) {
            if (!in(n, 0, 99) || !in(what, 0, 2)) {
                return BAD;
            }
            int[] then = after(wearer, left, n);
            return what == 0 ? cracked(then) : what == 1 ? burnt(then) : Arrays.stream(then).sum();
        }

        int when(int name, int what) {
            if (!has(name) || !in(what, 0, 1)) {
                return BAD;
            }
            for (int day = 0; day < 100; day++) {
                if (left(name, day) < (what == 0 ? 10 * ones.get(name)[0] : 1)) {
                    return day;
                }
            }
            return NOT;
        }

        int last() {
            for (int day = 0; day < 100; day++) {
                int[] then = after(wearer, left, day);
                for (int name = 0; name < then.length; name++) {
                    if (then[name] == 0) {
                        return name;
                    }
                }
            }
            return NOT;
        }

        int give(int name, int n, int what) {
            if (!has(name) || !in(n, 0, 99) || !in(what, 0, 1)) {
                return BAD;
            }
            int who = -1;
            int most = -1;
            for (int one = 0; one < size(); one++) {
                if (one == wearer[name] || worn(wearer, one) < ones.get(one)[2]) {
                    int[] thought = wearer.clone();
                    thought[name] = one;
                    int rest = after(thought, left, n)[name];
                    if (rest > most) {
                        who = one;
                        most = rest;
                    }
                }
            }
            return what == 0 ? who : most;
        }

        void ways(int[] way, int at, List<int[]> out) {
            if (at == way.length) {
                for (int one = 0; one < size(); one++) {
                    if (worn(way, one) > ones.get(one)[2]) {
                        return;
                    }
                }
                out.add(way.clone());
                return;
            }
            for (int one = 0; one < size(); one++) {
                way[at] = one;
                ways(way, at + 1, out);
            }
        }

        List<int[]> allWays() {
            List<int[]> out = new ArrayList<>();
            ways(new int[size()], 0, out);
            return out;
        }

        int allLast(int n, int what) {
            if (!in(n, 0, 99) || !in(what, -2, size() - 1)) {
                return BAD;
            }
            if (size() > 5) {
                return STATE;
            }
            int[] best = null;
            int[] bestThen = null;
            for (int[] way : allWays()) {
                int[] then = after(way, left, n);
                if (best == null || better(then, bestThen)) {
                    best = way;
                    bestThen = then;
                }
            }
            if (best == null) {
                return NOT;
            }
            return what == -1 ? burnt(bestThen) : what == -2 ? Arrays.stream(bestThen).sum() : best[what];
        }

        boolean better(int[] a, int[] b) {
            if (burnt(a) != burnt(b)) {
                return burnt(a) < burnt(b);
            }
            if (cracked(a) != cracked(b)) {
                return cracked(a) < cracked(b);
            }
            return Arrays.stream(a).sum() > Arrays.stream(b).sum();
        }

        int fewest(int n) {
            if (!in(n, 0, 99)) {
                return BAD;
            }
            if (size() > 5) {
                return STATE;
            }
            int least = 99;
            for (int[] way : allWays()) {
                if (burnt(after(way, left, n)) == 0) {
                    least = Math.min(least, (int) Arrays.stream(way).distinct().count());
                }
            }
            return least == 99 ? NOT : least;
        }

        int thaws(int name) {
            if (name != -1 && !has(name)) {
                return BAD;
            }
            int[] now = wearer.clone();
            int[] home = new int[size()];
            int minute = 0;
            for (; worn1(now) > 0; ) {
                minute++;
                int[] next = now.clone();
                for (int one = 0; one < size(); one++) {
                    for (int k = 0; k < size(); k++) {
                        if (now[k] == one && k != one) {
                            next[k] = k;
                            home[k] = minute;
                            break;
                        }
                    }
                }
                now = next;
            }
            return name == -1 ? minute : home[name];
        }

        static int worn1(int[] wearers) {
            int given = 0;
            for (int k = 0; k < wearers.length; k++) {
                given += wearers[k] != k ? 1 : 0;
            }
            return given;
        }

        int ring(int one, int what) {
            if (!has(one) || !in(what, 0, 1)) {
                return BAD;
            }
            List<Integer> walk = new ArrayList<>();
            int at = one;
            while (!walk.contains(at)) {
                walk.add(at);
                at = wearer[at];
            }
            return what == 0 ? walk.size() - walk.indexOf(at) : at == one ? 1 : 0;
        }

        int crowd(int what) {
            if (!in(what, 0, 1)) {
                return BAD;
            }
            for (int many = 8; many > 0; many--) {
                for (int one = 0; one < size(); one++) {
                    if (worn(wearer, one) == many) {
                        return what == 0 ? many : one;
                    }
                }
            }
            return what == 0 ? 0 : NOT;
        }

        int letter(int name, int k, int what) {
            if (!has(name) || !in(k, 0, 99) || !in(what, 0, 1)) {
                return BAD;
            }
            TreeSet<Integer> came = new TreeSet<>();
            int who = wearer[name];
            came.add(who);
            for (int i = 0; i < k; i++) {
                who = wearer[who];
                came.add(who);
            }
            return what == 0 ? who : came.size();
        }

        int owe(int ab, int n) {
            if (ab < 0 || !has(ab / 10) || !has(ab % 10) || ab / 10 == ab % 10 || !in(n, -99, 99)) {
                return BAD;
            }
            int then = debts[ab / 10][ab % 10] + n;
            if (!in(then, 0, 9999)) {
                return STATE;
            }
            debts[ab / 10][ab % 10] = then;
            return then;
        }

        int debt(int name) {
            if (name != -1 && !has(name)) {
                return BAD;
            }
            int awake = 0;
            int asleep = 0;
            for (int a = 0; a < size(); a++) {
                for (int b = 0; b < size(); b++) {
                    if (wearer[a] == a && wearer[b] == b) {
                        awake += a == name ? debts[a][b] : 0;
                    } else {
                        asleep += debts[a][b];
                    }
                }
            }
            return name == -1 ? asleep : awake;
        }

        int doors(int n) {
            if (!in(n, 0, 99)) {
                return BAD;
            }
            int most = Arrays.stream(after(wearer, left, n)).sum();
            int best = NOT;
            for (int a = 0; a < size(); a++) {
                for (int b = a + 1; b < size(); b++) {
                    int[] thought = wearer.clone();
                    thought[a] = wearer[b];
                    thought[b] = wearer[a];
                    int sum = Arrays.stream(after(thought, left, n)).sum();
                    if (wearer[a] != wearer[b] && sum > most) {
                        most = sum;
                        best = 10 * a + b;
                    }
                }
            }
            return best;
        }

        int firstWrong(byte[] row, int[] wearers) {
            for (int k = 0; k * 3 < row.length; k++) {
                if (k * 3 + 2 >= row.length) {
                    return k;
                }
                int day = row[k * 3];
                int name = row[k * 3 + 1];
                int who = row[k * 3 + 2];
                if (!in(day, 0, 99) || !has(name) || wearers[name] != who || after(wearers, left, day)[name] == 0) {
                    return k;
                }
            }
            return NOT;
        }

        int judge(int shelf) {
            if (!in(shelf, 0, 5)) {
                return BAD;
            }
            if (shelves[shelf] == null) {
                return -11;
            }
            return shelves[shelf] instanceof byte[] ? firstWrong((byte[]) shelves[shelf], wearer) : -12;
        }

        int wore(int shelf, int name) {
            if (!in(shelf, 0, 5) || name != -1 && !has(name)) {
                return BAD;
            }
            if (shelves[shelf] == null) {
                return -11;
            }
            if (!(shelves[shelf] instanceof byte[])) {
                return -12;
            }
            if (size() > 5) {
                return STATE;
            }
            List<int[]> found = new ArrayList<>();
            for (int[] way : allWays()) {
                if (firstWrong((byte[]) shelves[shelf], way) == NOT) {
                    found.add(way);
                }
            }
            return name == -1 ? found.size() : found.isEmpty() ? NOT : found.get(0)[name];
        }

        int drawn(int seed, int nm, int name) {
            if (nm < 0 || !in(nm / 100, 1, 20) || !in(nm % 100, 1, 99) || name != -1 && !has(name)) {
                return BAD;
            }
            int z = seed;
            int sum = 0;
            for (int k = 0; k < nm / 100; k++) {
                int[] now = left.clone();
                for (int day = 0; day < nm % 100; day++) {
                    z = z * 1103515245 + 12345;
                    for (int one = 0; one < size(); one++) {
                        now[one] = Math.max(0, now[one] - rate(wearer, one, (z >>> 8) % 10));
                    }
                }
                sum += name == -1 ? burnt(now) : now[name];
            }
            return sum;
        }

        int lend(int name, int one) {
            if (!has(name) || !has(one)) {
                return BAD;
            }
            int was = wearer[name];
            if (was != one) {
                if (worn(wearer, one) >= ones.get(one)[2]) {
                    return STATE;
                }
                wearer[name] = one;
                lendings++;
            }
            return was;
        }

        int pass(int n) {
            if (!in(n, 1, 99)) {
                return BAD;
            }
            left = after(wearer, left, n);
            days += n;
            return Arrays.stream(left).sum();
        }

        int thaw() {
            int minutes = thaws(-1);
            for (int k = 0; k < size(); k++) {
                wearer[k] = k;
            }
            thaws++;
            return minutes;
        }

        int led(int what) {
            return what == 0 ? days : what == 1 ? lendings : what == 2 ? thaws : what == 3 ? burnt(left) : BAD;
        }

        int image() {
            int[][] owed = new int[8][];
            for (int a = 0; a < 8; a++) {
                owed[a] = debts[a].clone();
            }
            image = Arrays.asList(wearer.clone(), left.clone(), owed, new int[] {days, lendings, thaws});
            return days;
        }

        int back() {
            if (image == null) {
                return STATE;
            }
            int[] wearers = (int[]) image.get(0);
            int[] lefts = (int[]) image.get(1);
            int[][] owed = (int[][]) image.get(2);
            int[] ledger = (int[]) image.get(3);
            for (int k = 0; k < size(); k++) {
                wearer[k] = k < wearers.length ? wearers[k] : k;
                left[k] = k < lefts.length ? lefts[k] : 100;
            }
            for (int a = 0; a < 8; a++) {
                debts[a] = owed[a].clone();
            }
            days = ledger[0];
            lendings = ledger[1];
            thaws = ledger[2];
            return days;
        }

        int undo() {
            if (changes.isEmpty()) {
                return STATE;
            }
            int[] change = changes.remove(changes.size() - 1);
            set(change[0], change[1], change[2]);
            undone.add(change);
            return changes.size();
        }

        int redo() {
            if (undone.isEmpty()) {
                return STATE;
            }
            int[] change = undone.remove(undone.size() - 1);
            set(change[0], change[1], change[3]);
            changes.add(change);
            return undone.size();
        }

        int body(int kind) {
            if (!in(kind, 0, 7)) {
                return BAD;
            }
            if (bodies.size() == 50) {
                return FULL;
            }
            Name name = made(kind);
            name.number = bodies.size();
            name.log = traced;
            bodies.add(name);
            return name.number;
        }

        int act(int body, int act, int x) {
            traced.clear();
            if (!in(body, 0, bodies.size() - 1)) {
                return 0;
            }
            Name name = bodies.get(body);
            switch (act) {
                case 0: return name.wears(x);
                case 1: return name.freezes(x);
                case 2: return name.calls(x);
                case 3: return name.tells(x);
                default: return 0;
            }
        }

        int trace(int i) {
            return in(i, 0, Math.min(24, traced.size()) - 1) ? traced.get(i) : BAD;
        }

        int keep(int shelf, int body) {
            if (!in(shelf, 0, 5) || !in(body, -1, bodies.size() - 1)) {
                return BAD;
            }
            shelves[shelf] = body == -1 ? null : bodies.get(body);
            return 1;
        }

        int row(int shelf, int sort, int n) {
            if (!in(shelf, 0, 5) || !in(sort, 0, 4) || n > 60) {
                return BAD;
            }
            try {
                switch (sort) {
                    case 0: shelves[shelf] = new byte[n]; break;
                    case 1: shelves[shelf] = new short[n]; break;
                    case 2: shelves[shelf] = new int[n]; break;
                    case 3: shelves[shelf] = new long[n]; break;
                    default: shelves[shelf] = new boolean[n]; break;
                }
            } catch (NegativeArraySizeException e) {
                return -14;
            }
            return 1;
        }

        int put(int shelf, int i, long v) {
            if (!in(shelf, 0, 5)) {
                return BAD;
            }
            Object o = shelves[shelf];
            if (o == null) {
                return -11;
            }
            try {
                if (o instanceof byte[]) {
                    ((byte[]) o)[i] = (byte) v;
                } else if (o instanceof short[]) {
                    ((short[]) o)[i] = (short) v;
                } else if (o instanceof int[]) {
                    ((int[]) o)[i] = (int) v;
                } else if (o instanceof long[]) {
                    ((long[]) o)[i] = v;
                } else {
                    ((boolean[]) o)[i] = v != 0;
                }
            } catch (ClassCastException e) {
                return -12;
            } catch (ArrayIndexOutOfBoundsException e) {
                return -13;
            }
            return 1;
        }

        long element(int shelf, int i) {
            try {
                Object o = shelves[shelf];
                if (o instanceof boolean[]) {
                    return ((boolean[]) o)[i] ? 1 : 0;
                }
                return java.lang.reflect.Array.getLong(o, i);
            } catch (RuntimeException e) {
                return Long.MIN_VALUE;
            }
        }

        int shift(int shelf, int i, int other, int j, int n) {
            if (!in(shelf, 0, 5) || !in(other, 0, 5)) {
                return BAD;
            }
            try {
                System.arraycopy(shelves[shelf], i, shelves[other], j, n);
            } catch (NullPointerException e) {
                return -11;
            } catch (ArrayStoreException e) {
                return -12;
            } catch (IndexOutOfBoundsException e) {
                return -13;
            }
            return n;
        }

        int taken(int shelf, int k) {
            if (!in(shelf, 0, 5) || !in(k, 0, 7)) {
                return BAD;
            }
            if (shelves[shelf] == null) {
                return -11;
            }
            if (!KINDS[k].isInstance(shelves[shelf])) {
                return -12;
            }
            return Arrays.asList(KINDS).indexOf(shelves[shelf].getClass());
        }

        int count(int what) {
            switch (what) {
                case 0: return size();
                case 1: return worn1(wearer);
                case 2: return tape.size();
                case 3: return changes.size();
                case 4: return bodies.size();
                case 5: return traced.size();
                default: return BAD;
            }
        }
    }
}
