import java.lang.reflect.InvocationTargetException;
import java.lang.reflect.Method;
import java.lang.reflect.Modifier;
import java.util.Arrays;
import java.util.Comparator;
import java.util.function.Consumer;
import java.util.function.IntSupplier;
import java.util.function.Supplier;

/** Counts and prints the answers that are not the ones that are due. */
final class Check {
    private int asked;
    private int wrong;
    private String test = "";

    /** Runs every test of a class: each static method that takes a Check alone. */
    static void runAll(Class<?> tests) {
        Check check = new Check();
        Method[] methods = tests.getDeclaredMethods();
        Arrays.sort(methods, Comparator.comparing(Method::getName));
        int ran = 0;
        for (Method m : methods) {
            if (!Modifier.isPrivate(m.getModifiers()) && Arrays.equals(m.getParameterTypes(), new Class<?>[] {Check.class})) {
                check.run(m);
                ran++;
            }
        }
        System.out.print(ran + " tests, ");
        check.end();
    }

    private void run(Method m) {
        test = m.getName() + ": ";
        int before = asked;
        try {
            m.invoke(null, this);
        } catch (InvocationTargetException e) {
            fail("threw " + e.getCause());
        } catch (IllegalAccessException e) {
            fail("could not be run");
        }
        if (asked == before) {
            fail("asked nothing");
        }
        test = "";
    }

    private void fail(String how) {
        wrong++;
        System.out.println(test + how);
    }

    void due(String call, int want, int got) {
        asked++;
        if (got != want) {
            fail(call + " answered " + got + ", due is " + want);
        }
    }

    void outOfBounds(String call, IntSupplier question) {
        asked++;
        try {
            fail(call + " answered " + question.getAsInt() + ", due is an IndexOutOfBoundsException");
        } catch (IndexOutOfBoundsException e) {
            // The machine's own exception is of a class below this one, and is not what is due.
            if (e.getClass() != IndexOutOfBoundsException.class) {
                fail(call + " threw " + e);
            }
        }
    }

    /** The levels of the path of a sign: DIGIT, SITE and COUNT of each. */
    void path(String call, SignRow row, int r, int place, int... levels) {
        int have = row.path(r, place, 0, 0);
        due(call + ", levels", levels.length / 3, have);
        for (int i = 0; i < levels.length && i / 3 < have; i++) {
            due(call + ", level " + (i / 3 + 1) + " part " + (i % 3 + 1), levels[i],
                    row.path(r, place, i / 3 + 1, i % 3 + 1));
        }
    }

    void text(String call, SignRow row, int r, String want) {
        StringBuilder got = new StringBuilder();
        int length = row.length(r);
        for (int i = 0; i < length; i++) {
            got.append((char) row.sign(r, i));
        }
        asked++;
        if (!want.contentEquals(got)) {
            fail(call + ": the text is '" + got + "', due is '" + want + "'");
        }
    }

    void message(String call, SignRow row, int i, int deed, int to) {
        due(call + ", message(" + i + ", 0)", deed, row.message(i, 0));
        due(call + ", message(" + i + ", 1)", to, row.message(i, 1));
    }

    /** Beside a twin of the same making, an object answers alike behind calls that change nothing. */
    void changesNothing(String calls, Supplier<SignRow> made, Consumer<SignRow> refused) {
        SignRow row = made.get();
        SignRow twin = made.get();
        refused.accept(row);
        int[] got = Given.allThatIsSeen(row);
        int[] want = Given.allThatIsSeen(twin);
        due(calls + ": how much is seen", want.length, got.length);
        for (int i = 0; i < want.length && i < got.length; i++) {
            due(calls + ": what is seen, number " + i, want[i], got[i]);
        }
    }

    int wrong() {
        return wrong;
    }

    void end() {
        System.out.println(asked + " answers, " + wrong + " not as due");
        if (wrong != 0 || asked == 0) {
            System.exit(1);
        }
    }
}
