import java.lang.management.ManagementFactory;
import java.lang.reflect.InvocationTargetException;
import java.lang.reflect.Method;
import java.lang.reflect.Modifier;
import java.util.ArrayList;
import java.util.Arrays;
import java.util.Comparator;
import java.util.List;
import java.util.Random;

/** Calls with any arguments in any state: none may throw, none may make objects, refusals change nothing. */
public final class WildRuns {
    private static final int[] EDGES = {
        Integer.MIN_VALUE, Integer.MIN_VALUE + 1, -2000000000, -1000, -128, -101, -100, -99, -15, -3, -2, -1,
        0, 1, 2, 3, 4, 5, 6, 7, 8, 9, 10, 11, 12, 13, 14, 23, 24, 25, 39, 40, 41, 49, 50, 51, 59, 60, 61, 76, 77, 78, 98, 99,
        100, 101, 119, 120, 121, 127, 128, 255, 256, 999, 1000, 1999, 2000, 2099, 2100, 9999, 10000,
        Integer.MAX_VALUE - 2, Integer.MAX_VALUE - 1, Integer.MAX_VALUE};
    private static final int RUNS = 500;
    // with what is read at the end fewer than 512
    private static final int CALLS = 270;
    private static int wrong = 0;

    public static void main(String[] args) throws Exception {
        Method[] methods = Arrays.stream(NamesOnLoan.class.getDeclaredMethods())
            .filter(m -> Modifier.isPublic(m.getModifiers()))
            .sorted(Comparator.comparing(Method::getName)).toArray(Method[]::new);
        for (int run = 0; run < RUNS && wrong < 10; run++) {
            List<Drawn> calls = drawn(new Random(run), methods);
            for (int part = 0; part < Whole.PARTS && wrong < 10; part++) {
                twins(run, calls, part);
            }
        }
        noCallMakesAnything();
        System.out.println(wrong == 0 ? "no wild call threw" : wrong + " faults");
        if (wrong != 0) {
            System.exit(1);
        }
    }

    /** A call and what it is given. */
    private static final class Drawn {
        private final Method method;
        private final Object[] given;

        Drawn(Method method, Object[] given) {
            this.method = method;
            this.given = given;
        }

        long on(NamesOnLoan x) throws Exception {
            return ((Number) method.invoke(x, given)).longValue();
        }

        /** These answer below 0, too, when they are not refused. */
        boolean tellsAnything() {
            return method.getName().equals("element") || method.getName().equals("act") || method.getName().equals("law");
        }

        @Override
        public String toString() {
            return method.getName() + Arrays.toString(given);
        }
    }

    private static List<Drawn> drawn(Random draw, Method[] methods) {
        List<Drawn> calls = new ArrayList<>();
        for (int k = 0; k < CALLS; k++) {
            Method method = methods[draw.nextInt(methods.length)];
            Class<?>[] types = method.getParameterTypes();
            Object[] given = new Object[types.length];
            for (int i = 0; i < given.length; i++) {
                int v = draw.nextInt(4) == 0 ? EDGES[draw.nextInt(EDGES.length)] : draw.nextInt(10);
                v = draw.nextInt(60) == 0 ? draw.nextInt() : v;
                given[i] = types[i] == long.class ? (Object) (long) v : (Object) v;
            }
            calls.add(new Drawn(method, given));
        }
        return calls;
    }

    /** An object that refused calls is as like another one, to which those calls never came. */
    private static void twins(int run, List<Drawn> calls, int part) throws Exception {
        NamesOnLoan x = new NamesOnLoan();
        NamesOnLoan y = new NamesOnLoan();
        for (Drawn call : calls) {
            try {
                long answer = call.on(x);
                if ((answer >= 0 || call.tellsAnything()) && call.on(y) != answer) {
                    wrong++;
                    System.out.println("run " + run + ": " + call + " answers otherwise, as a call ahead of it was refused");
                    return;
                }
            } catch (InvocationTargetException e) {
                wrong++;
                System.out.println("run " + run + ": " + call + " threw " + e.getCause());
                return;
            }
        }
        if (!Whole.part(x, part).equals(Whole.part(y, part))) {
            wrong++;
            System.out.println("run " + run + ": a refused call changed part " + part);
        }
    }

    private static void noCallMakesAnything() {
        NamesOnLoan x = new NamesOnLoan();
        for (int k = 0; k < 5; k++) {
            x.person(k + 1, k);
        }
        x.body(7);
        x.row(0, 0, 60);
        com.sun.management.ThreadMXBean threads = (com.sun.management.ThreadMXBean) ManagementFactory.getThreadMXBean();
        long self = Thread.currentThread().getId();
        long made = 0;
        // the first rounds let the machine load what it needs
        for (int round = 0; round < 3; round++) {
            long before = threads.getThreadAllocatedBytes(self);
            everyCall(x);
            made = threads.getThreadAllocatedBytes(self) - before;
        }
        if (made > 200) {
            wrong++;
            System.out.println("a round of calls made " + made + " bytes");
        }
    }

    private static void everyCall(NamesOnLoan x) {
        x.person(1, 1);
        x.people(0, 0, 8);
        x.mend(0, 4, 3);
        x.mend(0, 4, 2);
        x.of(0, 12);
        for (char c : "s*(c+n)>3?o+1;(g|f)*!(2-1)".toCharArray()) {
            x.feed(c);
        }
        x.law();
        x.burns(0);
        x.left(0, 9);
        x.winter(9, 2);
        x.when(0, 1);
        x.last();
        x.give(0, 9, 0);
        x.allLast(9, 0);
        x.fewest(9);
        x.lend(0, 1);
        x.thaws(-1);
        x.ring(0, 0);
        x.crowd(0);
        x.letter(0, 9, 1);
        x.owe(1, 1);
        x.debt(-1);
        x.doors(9);
        x.judge(0);
        x.wore(0, -1);
        x.drawn(1, 2099, -1);
        x.pass(1);
        x.image();
        x.thaw();
        x.back();
        x.led(3);
        x.undo();
        x.redo();
        x.act(0, 3, 5);
        x.trace(0);
        x.put(0, 0, 5);
        x.element(0, 0);
        x.shift(0, 0, 0, 1, 9);
        x.keep(1, 0);
        x.row(2, 3, 60);
        x.taken(1, 0);
        x.count(0);
    }
}
