import java.lang.reflect.InvocationTargetException;
import java.lang.reflect.Method;
import java.util.Arrays;
import java.util.List;
import java.util.function.Supplier;

/** What the tests of boundary cases share: calls by their names, their bounds, and that what is refused changes nothing. */
final class Edges {
    private final Due due = new Due();

    void is(String call, long got, long want) {
        due.is(call, got, want);
    }

    void close(String test) {
        due.close(test);
    }

    /** The answer of a call that changes something, or is asked of an object at hand. */
    void answers(RodOwes x, long want, String name, Object... args) {
        due.is(told(name, args), ask(x, name, args), want);
    }

    /** A call that is refused: its answer, and that nothing changed. */
    void refused(Supplier<RodOwes> start, long want, String name, Object... args) {
        due.is(told(name, args), ask(start.get(), name, args), want);
        same(told(name, args) + " changed nothing", start, () -> after(start, name, args));
    }

    /** A call that asks only: its answer, and that nothing changed. */
    void asks(Supplier<RodOwes> start, long want, String name, Object... args) {
        refused(start, want, name, args);
    }

    /** One number of a call: taken at both ends of its bounds, BAD just outside of them and far outside. */
    void bounds(Supplier<RodOwes> start, int place, int least, int most, String name, Object... args) {
        for (int v : new int[] {least, most}) {
            Object[] at = with(args, place, v);
            due.is(told(name, at) + " is not BAD", ask(start.get(), name, at) == RodOwes.BAD ? 1 : 0, 0);
        }
        for (int v : new int[] {least - 1, most + 1, Integer.MIN_VALUE, Integer.MAX_VALUE}) {
            refused(start, RodOwes.BAD, name, with(args, place, v));
        }
    }

    /** Two starts make objects that can not be told apart (but by rows that begin with one of the words). */
    void same(String what, Supplier<RodOwes> one, Supplier<RodOwes> other, String... but) {
        List<String> wanted = State.without(State.of(one), but);
        List<String> got = State.without(State.of(other), but);
        due.is(what + ": rows", got.size(), wanted.size());
        for (int i = 0; i < Math.min(got.size(), wanted.size()); i++) {
            if (!got.get(i).equals(wanted.get(i))) {
                due.is(what + " (" + wanted.get(i) + " became " + got.get(i) + ")", 1, 0);
                return;
            }
        }
    }

    long ask(RodOwes x, String name, Object... args) {
        try {
            return ((Number) method(name).invoke(x, args)).longValue();
        } catch (InvocationTargetException e) {
            System.out.println(told(name, args) + " threw " + e.getCause());
            return Long.MIN_VALUE;
        } catch (IllegalAccessException e) {
            throw new IllegalStateException(e);
        }
    }

    private RodOwes after(Supplier<RodOwes> start, String name, Object... args) {
        RodOwes x = start.get();
        ask(x, name, args);
        return x;
    }

    private static Object[] with(Object[] args, int place, int v) {
        Object[] changed = args.clone();
        changed[place] = v;
        return changed;
    }

    private static String told(String name, Object... args) {
        String list = Arrays.toString(args);
        return name + "(" + list.substring(1, list.length() - 1) + ")";
    }

    private static Method method(String name) {
        for (Method m : RodOwes.class.getMethods()) {
            if (m.getName().equals(name) && m.getDeclaringClass() == RodOwes.class) {
                return m;
            }
        }
        throw new IllegalArgumentException("no call " + name);
    }

    // ---- starts

    /** 4 by 3, with something of all there is; 4 DEBTS more and 5 SEEN more can come, its fault() is 1, its torn() 3. */
    static RodOwes rich() {
        RodOwes x = Due.told("county 4 3;wet 0 3;wet 1 3;wet 5 9;iron 2;odds 3 8;claim 0 0;claim 1 1;claim 2 2;claim 11 3;"
            + "purse 0 40;purse 1 50;cost 2;price 30;rod both 4;");
        x.owe(0, 1, 50);
        x.owe(1, 2, 9);
        x.bore(0, 0, 3);
        x.see(0, 0, 2, true);
        x.keep(0);
        x.bore(1, 1, 2);
        x.see(4, 1, 1, false);
        x.owe(2, 3, 7);
        x.keep(1);
        x.see(5, 3, 9, false);
        x.owe(3, 0, 99);
        x.fund(3, 77);
        lay(x, 0, 0, 0, 0, 3, 1, 5, 9, 2, 2, 1);
        lay(x, 1, 1, 3, 7, 4, 1, 1, 2, 8);
        lay(x, 2, 2, 2, 6, 5, 1);
        x.read(0, 1, 0, 1);
        Due.tell(x, "$");
        Due.feed(x, "cost 3;");
        return x;
    }

    static void lay(RodOwes x, int k, int lane, int... cells) {
        x.sheet(k, lane, cells.length);
        for (int i = 0; i < cells.length; i++) {
            x.lay(k, i, cells[i]);
        }
    }

    static RodOwes fullOfDebts() {
        RodOwes x = rich();
        for (int i = 4; i < 8; i++) {
            x.owe(i % 4, (i + 1) % 4, 10 + i);
        }
        return x;
    }

    static RodOwes fullOfSeen() {
        RodOwes x = rich();
        for (int i = 3; i < 8; i++) {
            x.see(4, 0, 2, false);
        }
        return x;
    }

    static RodOwes fullTape() {
        RodOwes x = Due.told("wet 0 3;claim 0 0;purse 0 40;");
        x.bore(0, 0, 3);
        x.keep(1);
        String text = "county 4 4;wet 15 9;price 20;";
        Due.feed(x, text + " ".repeat(160 - text.length()));
        return x;
    }
}
