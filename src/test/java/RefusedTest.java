import java.lang.reflect.InvocationTargetException;
import java.lang.reflect.Method;
import java.util.ArrayList;
import java.util.Arrays;
import java.util.List;

/**
 * "BAD: a number is none that is told. NO: not as things stand. NONE: there is none. FULL. Of several the first in this
 * order, whatever the order at a call; nothing changes then": each call, at and beyond each bound of each number, with
 * all others at and beyond theirs, in states in which it is refused for several reasons. PlainHouse says what is due.
 */
public final class RefusedTest {
    private static final Due DUE = new Due();
    private static final int BAD = -1, NO = -2, FULL = -3, NONE = -4;

    /** What a call asks for: LAST stands for the number of the last clock. */
    private static final int LAST = 1_000_000;
    private static final Object[][] CALLS = {
        {"write", 32, 126}, {"wipe"}, {"fault"}, {"lay"}, {"clock", 0, LAST, 0, 3}, {"wall", 0, LAST, 0, LAST}, {"noon"},
        {"pass", 1, 20}, {"teach", 0, LAST, 0, LAST}, {"set", 0, LAST}, {"oil", 0, LAST}, {"undo"},
        {"behind", 0, 60, -1, LAST}, {"right", 0, 100, 0, 2}, {"ring", 0, 7}, {"dull"}, {"pairs", -1, LAST},
        {"oils", 0, LAST, 1, 30, 0, 100}, {"hear", 0, LAST, 0, 1200}, {"forget"}, {"taught", 0, 1}, {"setter", 0, 1},
        {"child", 0, LAST}, {"draughts", 0, LAST, 0, 6, 0, 10, 0, 1}, {"year", 0, 9999, 1, 60, 0, 1}, {"keep"}, {"back"},
        {"count", 0, 8},
    };

    /** Calls that change something if they are not refused. */
    private static final List<String> STEPS = List.of("write", "wipe", "lay", "pass", "teach", "set", "oil", "undo",
        "hear", "forget", "keep", "back");

    private static final String SEVEN = "c0,100,10;c1,112,11;c2,95,10;c3,130,9;c4,80,12;c0,100,20;c1,0,0;w0,1;w5,6;l0,0,1;";

    /** A text to be laid (none: the first one), then calls by name and numbers. */
    private static final String[][] STATES = {
        {""},
        {"c0,100,10;"},
        {"c3,101,10;", "hear 0 600", "wipe"},
        {"c3,200,20;c3,0,0;", "pass 20", "hear 1 1200", "write 120"},
        {"c0,107,10;c4,150,8;c2,100,11;w0,2;l13,0,1;", "pass 13", "keep", "oil 1", "hear 1 607", "write 99"},
        {SEVEN, "pass 6", "keep", "oil 4", "keep", "hear 0 601", "hear 0 601"},
        {SEVEN, "all full"},
    };

    public static void main(String[] args) throws ReflectiveOperationException {
        for (String[] state : STATES) {
            String untouched = Sight.whole(ready(new TaughtClocks(), state));
            for (Object[] call : CALLS) {
                edges(state, call, untouched);
            }
        }
        badIsFirst();
        refusedAgainAndAgain();
        DUE.end("RefusedTest");
    }

    private static <T> T ready(T x, String[] state) throws ReflectiveOperationException {
        if (!state[0].isEmpty()) {
            writeAll(x, state[0]);
            ask(x, "lay");
        }
        for (String step : Arrays.copyOfRange(state, 1, state.length)) {
            if (step.equals("all full")) {
                fill(x);
            } else {
                String[] words = step.split(" ");
                int[] numbers = Arrays.stream(words).skip(1).mapToInt(Integer::parseInt).toArray();
                ask(x, words[0], numbers);
            }
        }
        return x;
    }

    private static void writeAll(Object x, String text) throws ReflectiveOperationException {
        ask(x, "wipe");
        for (char letter : text.toCharArray()) {
            ask(x, "write", letter);
        }
    }

    /** Eight steps can be undone, two are kept, six heard, and the text has its 200 letters. */
    private static void fill(Object x) throws ReflectiveOperationException {
        for (int i = 0; i < 8; i++) {
            ask(x, "pass", 2);
            if (i < 2) {
                ask(x, "keep");
            }
            if (i < 6) {
                ask(x, "hear", 0, 600);
            }
        }
        for (int i = SEVEN.length(); i < 200; i++) {
            ask(x, "write", 'c');
        }
    }

    private static int ask(Object x, String name, int... numbers) throws ReflectiveOperationException {
        Class<?>[] types = new Class<?>[numbers.length];
        Arrays.fill(types, int.class);
        Method method = x.getClass().getDeclaredMethod(name, types);
        Object[] boxed = Arrays.stream(numbers).boxed().toArray();
        try {
            return (int) method.invoke(x, boxed);
        } catch (InvocationTargetException thrown) {
            DUE.is(name + Arrays.toString(numbers) + " threw " + thrown.getCause(), 0, 1);
            return Integer.MIN_VALUE;
        }
    }

    private static void edges(String[] state, Object[] call, String untouched) throws ReflectiveOperationException {
        String name = (String) call[0];
        int last = ask(ready(new PlainHouse(), state), "count", 0) - 1;
        List<int[]> rows = new ArrayList<>();
        rows.add(new int[0]);
        for (int i = 1; i < call.length; i += 2) {
            int least = (Integer) call[i];
            int most = (Integer) call[i + 1] == LAST ? last : (Integer) call[i + 1];
            rows = withEach(rows, valuesAround(least, most, call.length > 5));
        }
        for (int[] numbers : rows) {
            TaughtClocks x = ready(new TaughtClocks(), state);
            int due = ask(ready(new PlainHouse(), state), name, numbers);
            String told = name + Arrays.toString(numbers) + " of " + Arrays.toString(state);
            DUE.is(told, due, ask(x, name, numbers));
            if (due < 0 || !STEPS.contains(name)) {
                DUE.is(told + " and all behind it", untouched, Sight.whole(x));
            }
        }
    }

    /** At, beside and far beyond both bounds; with many numbers at a call, fewer of them. */
    private static List<Integer> valuesAround(int least, int most, boolean few) {
        List<Integer> values = new ArrayList<>(List.of(least - 1, least, most, most + 1, Integer.MIN_VALUE));
        if (!few) {
            values.addAll(List.of(least - 2, least + 1, most - 1, most + 2, 256 + least, Integer.MAX_VALUE));
        }
        return values;
    }

    private static List<int[]> withEach(List<int[]> rows, List<Integer> values) {
        List<int[]> longer = new ArrayList<>();
        for (int[] row : rows) {
            for (int value : values) {
                int[] next = Arrays.copyOf(row, row.length + 1);
                next[row.length] = value;
                longer.add(next);
            }
        }
        return longer;
    }

    private static void is(int due, Object x, String name, int... numbers) throws ReflectiveOperationException {
        DUE.is(name + Arrays.toString(numbers), due, ask(x, name, numbers));
    }

    /** "Of several the first in this order, whatever the order at a call", told by itself: two reasons at each call. */
    private static void badIsFirst() throws ReflectiveOperationException {
        TaughtClocks full = ready(new TaughtClocks(), STATES[6]);
        is(BAD, full, "write", 31);
        is(FULL, full, "write", 32);
        is(BAD, full, "hear", 7, 600);
        is(BAD, full, "hear", 0, 1201);
        is(FULL, full, "hear", 0, 1200);
        is(FULL, full, "keep");
        is(NO, full, "lay");
        TaughtClocks blind = ready(new TaughtClocks(), STATES[3]);
        is(BAD, blind, "teach", 1, 1);
        is(BAD, blind, "teach", 2, 1);
        is(BAD, blind, "teach", -1, 1);
        is(NO, blind, "teach", 0, 1);
        is(BAD, blind, "right", 101, 1);
        is(BAD, blind, "right", 0, 3);
        is(NONE, blind, "right", 0, 2);
        is(BAD, blind, "ring", 8);
        is(NONE, blind, "ring", 3);
        is(BAD, blind, "oils", 0, 30, 101);
        is(BAD, blind, "oils", 2, 30, 0);
        is(NONE, blind, "oils", 0, 30, 0);
        is(BAD, blind, "taught", 2);
        is(NONE, blind, "taught", 1);
        is(BAD, blind, "setter", 2);
        is(NONE, blind, "setter", 1);
        is(NO, blind, "back");
        TaughtClocks one = ready(new TaughtClocks(), STATES[1]);
        is(BAD, one, "child", 1);
        is(NONE, one, "child", 0);
        is(BAD, one, "pairs", 1);
        is(NONE, one, "pairs", 0);
        is(BAD, one, "oil", 1);
        is(NO, one, "oil", 0);
        is(NO, one, "undo");
        is(NONE, one, "fault");
    }

    /** What is refused is refused again and again, and all goes on as if it had not been asked. */
    private static void refusedAgainAndAgain() throws ReflectiveOperationException {
        TaughtClocks asked = ready(new TaughtClocks(), STATES[6]);
        TaughtClocks other = ready(new TaughtClocks(), STATES[6]);
        for (int i = 0; i < 3; i++) {
            is(FULL, asked, "keep");
            is(FULL, asked, "hear", 1, 600);
            is(FULL, asked, "write", 'c');
            is(BAD, asked, "pass", 21);
            is(NO, asked, "lay");
            is(NO, asked, "teach", 0, 3);
        }
        DUE.is("behind what was refused", Sight.whole(other), Sight.whole(asked));
    }
}
